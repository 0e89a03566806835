import java.util.ArrayList;
import java.util.Arrays;
import java.util.HashMap;
import java.util.List;
import java.util.Map;
import java.util.regex.Matcher;
import java.util.regex.Pattern;

/**
 * The document's words once more, as slowly as they stand: every row that
 * COULD BE is written down. Good for persons with some thousands of rows.
 */
final class Plain {
    static final int BAD = -1, STATE = -2, FULL = -3, NONE = -9;
    static final int ROOM = 3000;

    record Rule(int day, int base, int free, int take, int by) { }
    record Firm(int from, int to, int sum, int day) { }
    record Slip(int fortnight, int pay, int day) { }
    record Move(int day, int place) { }
    record Letter(int debt, int day, int place) { }

    static final class Coins {
        int person, amount, open, held, set, day, fee;

        Coins copy() {
            Coins c = new Coins();
            c.person = person;
            c.amount = amount;
            c.open = open;
            c.held = held;
            c.set = set;
            c.day = day;
            c.fee = fee;
            return c;
        }
    }

    static final class Who {
        final int[] told = new int[10];
        final int[] truth = new int[10];
        final List<Firm> firms = new ArrayList<>();
        final List<Slip> slips = new ArrayList<>();
        final List<List<Move>> moves = List.of(new ArrayList<>(), new ArrayList<>());
    }

    static final class Kept {
        List<Coins> debts = new ArrayList<>();
        List<Letter> letters = new ArrayList<>();
        List<Integer> line = new ArrayList<>();
        int lost = 0;
        int today = 0;

        Kept copy() {
            Kept k = new Kept();
            for (Coins c : debts) {
                k.debts.add(c.copy());
            }
            k.letters.addAll(letters);
            k.line.addAll(line);
            k.lost = lost;
            k.today = today;
            return k;
        }
    }

    private final StringBuilder text = new StringBuilder();
    private List<Rule> rules = new ArrayList<>();
    private final List<Who> all = new ArrayList<>();
    private Kept now = new Kept();
    private final Map<Integer, Kept> images = new HashMap<>();
    private long traced = 0;

    Plain() {
        for (int i = 0; i < 6; i++) {
            all.add(new Who());
        }
    }

    private static boolean in(int v, int low, int high) {
        return low <= v && v <= high;
    }

    // ---- rules

    int type(long v, int n) {
        if (!in(n, 1, 8)) {
            return BAD;
        }
        if (text.length() + n > 300) {
            return FULL;
        }
        for (int i = n; i > 0; i--) {
            text.append((char) (v >> 8 * (i - 1) & 0xFF));
        }
        return text.length();
    }

    int clear() {
        int n = text.length();
        text.setLength(0);
        return n;
    }

    int rules() {
        Matcher m = Pattern.compile("[A-Za-z]+|[0-9]+|[^ ]", Pattern.DOTALL).matcher(text);
        String[] form = {"from", "DAY", "base", "0-99", "free", "0-99", "take", "1-20", "/", "1-20", ";"};
        List<Rule> read = new ArrayList<>();
        List<Integer> numbers = new ArrayList<>();
        int at = 0;
        while (m.find()) {
            String token = m.group();
            boolean number = token.matches("0|[1-9][0-9]{0,2}");
            int v = number ? Integer.parseInt(token) : -1;
            int lastDay = read.isEmpty() ? -1 : read.get(read.size() - 1).day;
            boolean fine = switch (form[at]) {
                case "DAY" -> number && v <= 200 && v > lastDay;
                case "0-99" -> number && v <= 99;
                case "1-20" -> number && v >= 1 && v <= 20;
                default -> token.equals(form[at]);
            };
            if (!fine || read.size() == 6) {
                return -10 - m.start();
            }
            if (number) {
                numbers.add(v);
            }
            at++;
            if (at == form.length) {
                at = 0;
                read.add(new Rule(numbers.get(0), numbers.get(1), numbers.get(2), numbers.get(3), numbers.get(4)));
                numbers.clear();
            }
        }
        if (at != 0) {
            return -10 - text.length();
        }
        rules = read;
        text.setLength(0);
        return rules.size();
    }

    private int dueOf(int pay, int day) {
        Rule rule = null;
        for (Rule r : rules) {
            if (r.day <= day) {
                rule = r;
            }
        }
        if (rule == null) {
            return 0;
        }
        int less = pay > rule.free ? rule.take * (pay - rule.free) / rule.by : 0;
        return Math.max(0, rule.base - less);
    }

    int due(int pay, int day) {
        return in(pay, 0, 20) && in(day, 0, 200) ? dueOf(pay, day) : BAD;
    }

    // ---- persons

    int pay(int person, int fortnight, int what, int v) {
        if (!in(person, 0, 5) || !in(fortnight, 0, 9) || !in(what, 0, 1) || !in(v, 0, 20)) {
            return BAD;
        }
        int[] row = what == 0 ? all.get(person).told : all.get(person).truth;
        int was = row[fortnight];
        row[fortnight] = v;
        return was;
    }

    int firm(int person, int from, int to, int sum) {
        if (!in(person, 0, 5) || !in(from, 0, 9) || !in(to, from, 9) || !in(sum, 0, 20 * (to - from + 1))) {
            return BAD;
        }
        List<Firm> firms = all.get(person).firms;
        for (Firm f : firms) {
            if (f.from <= to && from <= f.to) {
                return STATE;
            }
        }
        if (firms.size() == 3) {
            return FULL;
        }
        firms.add(new Firm(from, to, sum, now.today));
        return firms.size();
    }

    int slip(int person, int fortnight, int pay) {
        if (!in(person, 0, 5) || !in(fortnight, 0, 9) || !in(pay, 0, 20)) {
            return BAD;
        }
        Who who = all.get(person);
        if (firmAt(who, fortnight, 200) == null || slipAt(who, fortnight, 200) != null) {
            return STATE;
        }
        who.slips.add(new Slip(fortnight, pay, now.today));
        if (rows(who, 200).isEmpty()) {
            who.slips.remove(who.slips.size() - 1);
            return STATE;
        }
        return could(person, now.today);
    }

    private static Firm firmAt(Who who, int fortnight, int day) {
        for (Firm f : who.firms) {
            if (f.day <= day && in(fortnight, f.from, f.to)) {
                return f;
            }
        }
        return null;
    }

    private static Slip slipAt(Who who, int fortnight, int day) {
        for (Slip s : who.slips) {
            if (s.day <= day && s.fortnight == fortnight) {
                return s;
            }
        }
        return null;
    }

    // ---- what could be

    /** Whether all rows of a person can be written down, with one more firm. */
    boolean hasRoom(int person, int from, int to, int sum) {
        if (!in(person, 0, 5) || !in(from, 0, 9) || !in(to, from, 9)) {
            return true;
        }
        double ways = howMany(to - from + 1, sum);
        for (Firm f : all.get(person).firms) {
            ways *= howMany(f.to - f.from + 1, f.sum);
        }
        return ways <= ROOM;
    }

    private static double howMany(int fortnights, int sum) {
        double[] ways = {1};
        for (int i = 0; i < fortnights; i++) {
            double[] more = new double[ways.length + 20];
            for (int p = 0; p <= 20; p++) {
                for (int s = 0; s < ways.length; s++) {
                    more[s + p] += ways[s];
                }
            }
            ways = more;
        }
        return in(sum, 0, ways.length - 1) ? ways[sum] : 0;
    }

    /** Any row that COULD BE by all that was told so far. */
    int[] someRow(int person, int which) {
        List<int[]> rows = rows(all.get(person), 200);
        return rows.get(Math.floorMod(which, rows.size()));
    }

    private List<int[]> rows(Who who, int day) {
        List<int[]> found = new ArrayList<>();
        write(who, day, 0, new int[10], found);
        return found;
    }

    private void write(Who who, int day, int f, int[] row, List<int[]> found) {
        if (f == 10) {
            found.add(row.clone());
            return;
        }
        Firm firm = firmAt(who, f, day);
        if (firm == null) {
            write(who, day, f + 1, row, found);
            return;
        }
        int rest = firm.sum;
        for (int i = firm.from; i < f; i++) {
            rest -= row[i];
        }
        Slip slip = slipAt(who, f, day);
        for (int p = 0; p <= 20 && p <= rest; p++) {
            boolean said = slip == null || slip.pay == p;
            boolean last = f == firm.to;
            boolean enough = last ? p == rest : rest - p <= 20 * (firm.to - f);
            if (said && enough) {
                row[f] = p;
                write(who, day, f + 1, row, found);
                row[f] = 0;
            }
        }
    }

    private int owedOf(Who who, int day, int[] row) {
        int owed = 0;
        for (int f = 0; f < 10; f++) {
            if (firmAt(who, f, day) != null) {
                owed += dueOf(who.told[f], day) - dueOf(row[f], day);
            }
        }
        return Math.max(0, owed);
    }

    private static int[] averages(Who who, int day) {
        int[] row = new int[10];
        for (Firm firm : who.firms) {
            if (firm.day <= day) {
                for (int coin = 0; coin < firm.sum; coin++) {
                    row[firm.from + coin % (firm.to - firm.from + 1)]++;
                }
            }
        }
        return row;
    }

    /** Each row that COULD BE, and behind its ten pays what is OWED by it. */
    private List<int[]> owedRows(Who who, int day) {
        List<int[]> found = new ArrayList<>();
        for (int[] row : rows(who, day)) {
            int[] more = Arrays.copyOf(row, 11);
            more[10] = owedOf(who, day, row);
            found.add(more);
        }
        return found;
    }

    /** LEAST and MOST of the rows that have these pays where bits say so. */
    private static int[] bounds(List<int[]> rows, int bits, int[] pays) {
        int least = Integer.MAX_VALUE;
        int most = Integer.MIN_VALUE;
        for (int[] row : rows) {
            boolean same = true;
            for (int f = 0; f < 10 && same; f++) {
                same = (bits >> f & 1) == 0 || row[f] == pays[f];
            }
            if (same) {
                least = Math.min(least, row[10]);
                most = Math.max(most, row[10]);
            }
        }
        return new int[] {least, most};
    }

    int could(int person, int day) {
        return in(person, 0, 5) && in(day, 0, 200) ? rows(all.get(person), day).size() : BAD;
    }

    int owed(int person, int day, int what) {
        if (!in(person, 0, 5) || !in(day, 0, 200) || !in(what, 0, 3)) {
            return BAD;
        }
        Who who = all.get(person);
        return switch (what) {
            case 0 -> owedOf(who, day, averages(who, day));
            case 1 -> bounds(owedRows(who, day), 0, null)[0];
            case 2 -> bounds(owedRows(who, day), 0, null)[1];
            default -> owedOf(who, day, who.truth);
        };
    }

    int stands(int person, int day) {
        if (!in(person, 0, 5) || !in(day, 0, 200)) {
            return BAD;
        }
        return owed(person, day, 1) == owed(person, day, 2) ? 1 : 0;
    }

    int span(int person, int day, int fortnight, int what) {
        if (!in(person, 0, 5) || !in(day, 0, 200) || !in(fortnight, 0, 9) || !in(what, 0, 1)) {
            return BAD;
        }
        Who who = all.get(person);
        if (firmAt(who, fortnight, day) == null) {
            return STATE;
        }
        var pays = rows(who, day).stream().mapToInt(row -> row[fortnight]).summaryStatistics();
        return what == 0 ? pays.getMin() : pays.getMax();
    }

    int settles(int person, int day, int what) {
        if (!in(person, 0, 5) || !in(day, 0, 200) || !in(what, 0, 1)) {
            return BAD;
        }
        Who who = all.get(person);
        int spans = 0;
        for (int f = 0; f < 10; f++) {
            spans |= firmAt(who, f, day) != null ? 1 << f : 0;
        }
        List<int[]> rows = owedRows(who, day);
        if (bounds(rows, spans, who.truth)[0] == Integer.MAX_VALUE) {
            return NONE;
        }
        int best = spans;
        for (int bits = 1023; bits >= 0; bits--) {
            if ((bits & ~spans) == 0 && Integer.bitCount(bits) <= Integer.bitCount(best)) {
                int[] b = bounds(rows, bits, who.truth);
                best = b[0] == b[1] ? bits : best;
            }
        }
        return what == 0 ? Integer.bitCount(best) : best;
    }

    int tells(int person, int day) {
        if (!in(person, 0, 5) || !in(day, 0, 200)) {
            return BAD;
        }
        Who who = all.get(person);
        List<int[]> rows = owedRows(who, day);
        int best = NONE;
        int least = Integer.MAX_VALUE;
        for (int f = 9; f >= 0; f--) {
            if (firmAt(who, f, day) != null && slipAt(who, f, day) == null) {
                int greatest = greatestOpen(rows, f);
                if (greatest <= least) {
                    least = greatest;
                    best = f;
                }
            }
        }
        return best;
    }

    private static int greatestOpen(List<int[]> rows, int f) {
        int greatest = 0;
        for (int p = 0; p <= 20; p++) {
            int[] pays = new int[10];
            pays[f] = p;
            int[] b = bounds(rows, 1 << f, pays);
            if (b[0] != Integer.MAX_VALUE) {
                greatest = Math.max(greatest, b[1] - b[0]);
            }
        }
        return greatest;
    }

    // ---- debts

    int debt(int person, int by) {
        if (!in(person, 0, 5) || !in(by, 0, 2)) {
            return BAD;
        }
        int amount = owed(person, now.today, by);
        if (amount == 0) {
            return STATE;
        }
        if (now.debts.size() == 20) {
            return FULL;
        }
        Coins c = new Coins();
        c.person = person;
        c.amount = amount;
        c.open = amount;
        c.day = now.today;
        now.debts.add(c);
        return now.debts.size() - 1;
    }

    int hold(int person, int pay, int part, int of) {
        if (!in(person, 0, 5) || !in(pay, 0, 999) || !in(of, 1, 20) || !in(part, 1, of)) {
            return BAD;
        }
        int share = pay * part / of;
        int taken = 0;
        for (int d = 0; d < now.debts.size(); d++) {
            Coins c = now.debts.get(d);
            int before = taken;
            while (c.person == person && ripe(d) && taken < share && c.open > 0) {
                c.open--;
                c.held++;
                taken++;
            }
            c.fee += (int) Math.ceil((taken - before) / 10.0);
        }
        return taken;
    }

    private boolean ripe(int debt) {
        for (int i = 0; i < now.letters.size(); i++) {
            Letter letter = now.letters.get(i);
            if (letter.debt == debt && post(i, 3) == 1 && now.today - (letter.day + 2) >= 7) {
                return true;
            }
        }
        return false;
    }

    int set(int debt) {
        if (!in(debt, 0, now.debts.size() - 1)) {
            return BAD;
        }
        Coins c = now.debts.get(debt);
        if (c.set > 0) {
            return STATE;
        }
        int given = c.held;
        c.set = c.open + c.held;
        c.open = 0;
        c.held = 0;
        now.lost += c.fee;
        return given;
    }

    int about(int debt, int what) {
        if (!in(debt, 0, now.debts.size() - 1) || !in(what, 0, 6)) {
            return BAD;
        }
        Coins c = now.debts.get(debt);
        return new int[] {c.person, c.amount, c.open, c.held, c.set, c.day, c.fee}[what];
    }

    int right(int debt, int day) {
        if (!in(debt, 0, now.debts.size() - 1) || !in(day, 0, 200)) {
            return BAD;
        }
        Coins c = now.debts.get(debt);
        if (c.amount > owed(c.person, day, 2)) {
            return 2;
        }
        return c.amount > owed(c.person, day, 1) ? 1 : 0;
    }

    // ---- letters, calls

    private static int placeOn(List<Move> moves, int day) {
        int place = 0;
        for (Move m : moves) {
            if (m.day <= day) {
                place = m.place;
            }
        }
        return place;
    }

    int place(int person, int what, int place) {
        if (!in(person, 0, 5) || !in(what, 0, 1) || !in(place, 0, 99)) {
            return BAD;
        }
        List<Move> moves = all.get(person).moves.get(what);
        int was = placeOn(moves, now.today);
        moves.add(new Move(now.today, place));
        return was;
    }

    int letter(int debt) {
        if (!in(debt, 0, now.debts.size() - 1)) {
            return BAD;
        }
        if (now.letters.size() == 30) {
            return FULL;
        }
        List<Move> known = all.get(now.debts.get(debt).person).moves.get(1);
        now.letters.add(new Letter(debt, now.today, placeOn(known, now.today)));
        return now.letters.size() - 1;
    }

    int post(int letter, int what) {
        if (!in(letter, 0, now.letters.size() - 1) || !in(what, 0, 3)) {
            return BAD;
        }
        Letter it = now.letters.get(letter);
        if (what < 3) {
            return new int[] {it.debt, it.day, it.place}[what];
        }
        if (it.day + 2 > now.today) {
            return 0;
        }
        List<Move> lived = all.get(now.debts.get(it.debt).person).moves.get(0);
        return placeOn(lived, it.day + 2) == it.place ? 1 : 2;
    }

    /** The first ones whose minutes together are 60 at most leave this line. */
    private static int hear(List<Integer> line) {
        int sum = 0;
        int heard = 0;
        while (!line.isEmpty() && sum + line.get(0) <= 60) {
            sum += line.remove(0);
            heard++;
        }
        return heard;
    }

    int call(int person, int minutes) {
        if (!in(person, 0, 5) || !in(minutes, 1, 60)) {
            return BAD;
        }
        if (now.line.size() == 40) {
            return FULL;
        }
        now.line.add(minutes);
        List<Integer> line = new ArrayList<>(now.line);
        int days = -1;
        while (!line.isEmpty()) {
            hear(line);
            days++;
        }
        return days;
    }

    int day() {
        if (now.today == 200) {
            return STATE;
        }
        now.today++;
        return hear(now.line);
    }

    int weight(int kind, int person, int fortnight) {
        if (!in(kind, 0, 7) || !in(person, 0, 5) || !in(fortnight, 0, 9)) {
            return BAD;
        }
        return weigh(kind, all.get(person), fortnight);
    }

    private int weigh(int kind, Who who, int f) {
        traced += Math.round(Math.pow(10, kind));
        Firm firm = firmAt(who, f, now.today);
        switch (kind) {
            case 0: return 1;
            case 1: return weigh(0, who, f) + who.told[f];
            case 2: return weigh(0, who, f) + (firm == null ? 0 : 2 * firm.sum);
            case 3: return weigh(2, who, f) / 2;
            case 4:
                int more = dueOf(who.told[f], now.today) - dueOf(averages(who, now.today)[f], now.today);
                return weigh(0, who, f) + (firm == null ? 0 : Math.max(0, more));
            case 5: return 3 * weigh(4, who, f);
            case 6: return weigh(0, who, f) + (slipAt(who, f, now.today) == null ? 0 : 50);
            default: return Math.max(0, weigh(4, who, f) - 5);
        }
    }

    int keep(int image) {
        if (!in(image, 0, 1)) {
            return BAD;
        }
        images.put(image, now.copy());
        return now.today;
    }

    int back(int image) {
        if (!in(image, 0, 1)) {
            return BAD;
        }
        if (!images.containsKey(image)) {
            return STATE;
        }
        now = images.get(image).copy();
        return now.today;
    }

    int count(int what) {
        return switch (what) {
            case 0 -> rules.size();
            case 1 -> all.stream().mapToInt(w -> w.firms.size()).sum();
            case 2 -> all.stream().mapToInt(w -> w.slips.size()).sum();
            case 3 -> now.debts.size();
            case 4 -> now.letters.size();
            case 5 -> now.line.size();
            case 6 -> now.today;
            case 7 -> text.length();
            case 8 -> now.debts.stream().mapToInt(c -> c.held).sum();
            case 9 -> now.debts.stream().mapToInt(c -> c.fee).sum();
            case 10 -> now.lost;
            default -> BAD;
        };
    }

    long trace() {
        return traced;
    }
}
