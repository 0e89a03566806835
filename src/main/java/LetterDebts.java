/**
 * Debts by letter: what persons told by fortnights, what firms tell of many
 * fortnights at once, and what can be owed by it. The document's words in
 * capitals (TOLD, SPAN, COULD BE ..) are used in the comments as it means them.
 *
 * Every row that a call needs is made in the constructor and used again, so no
 * call makes an object.
 */
public final class LetterDebts {
    public static final int BAD = -1, STATE = -2, FULL = -3, NONE = -9;

    private static final int PERSONS = 6;
    private static final int FORTNIGHTS = 10;
    private static final int FIRMS = 3;
    private static final int TOP_PAY = 20;
    private static final int TOP_SUM = TOP_PAY * FORTNIGHTS;
    private static final int LAST_DAY = 200;
    private static final int TEXT_BYTES = 300;
    private static final int TYPED_BYTES = 8;
    private static final int RULES = 6;
    private static final int DEBTS = 20;
    private static final int TOP_HOLD_PAY = 999;
    private static final int TOP_SHARE = 20;
    private static final int LETTERS = 30;
    private static final int TOP_PLACE = 99;
    private static final int DAYS_ON_THE_WAY = 2;
    private static final int DAYS_BEFORE_HOLD = 7;
    private static final int LINE = 40;
    private static final int DAY_MINUTES = 60;
    private static final int IMAGES = 2;
    private static final int KINDS = 8;
    private static final int MODULUS = 1000000007;

    private static final int BY_AVERAGE = 0;
    private static final int BY_LEAST = 1;
    private static final int BY_MOST = 2;
    private static final int BY_TRUTH = 3;

    private static final int ON_ITS_WAY = 0;
    private static final int COME = 1;
    private static final int GONE = 2;

    /** The KIND above each KIND; always a lower number, so going up ends. */
    private static final int[] ABOVE = {-1, 0, 0, 2, 0, 4, 0, 4};
    private static final int[] MARKS = {1, 10, 100, 1000, 10000, 100000, 1000000, 10000000};

    private final RulesText text = new RulesText();
    private final RuleBook book = new RuleBook();
    private final AsOf view = new AsOf();
    private final Person[] persons = new Person[PERSONS];
    private final Books now = new Books();
    private final Books[] images = new Books[IMAGES];
    private long traced = 0;

    public LetterDebts() {
        for (int i = 0; i < PERSONS; i++) {
            persons[i] = new Person();
        }
        for (int i = 0; i < IMAGES; i++) {
            images[i] = new Books();
        }
    }

    // ---- rules

    public int type(long v, int n) {
        if (outside(n, 1, TYPED_BYTES)) {
            return BAD;
        }
        if (text.length + n > TEXT_BYTES) {
            return FULL;
        }
        text.append(v, n);
        return text.length;
    }

    public int clear() {
        int had = text.length;
        text.length = 0;
        return had;
    }

    public int rules() {
        int fault = text.read();
        if (fault >= 0) {
            return -10 - fault;
        }
        book.takeOver(text.draft);
        view.tables.forget();
        text.length = 0;
        return book.size;
    }

    public int due(int pay, int day) {
        if (outside(pay, 0, TOP_PAY) || outside(day, 0, LAST_DAY)) {
            return BAD;
        }
        return book.dueBy(book.inForce(day), pay);
    }

    // ---- persons

    public int pay(int person, int fortnight, int what, int v) {
        if (noPerson(person) || noFortnight(fortnight) || outside(what, 0, 1) || outside(v, 0, TOP_PAY)) {
            return BAD;
        }
        int[] row = what == 0 ? persons[person].told : persons[person].truth;
        int was = row[fortnight];
        row[fortnight] = v;
        return was;
    }

    public int firm(int person, int from, int to, int sum) {
        if (noPerson(person) || noFortnight(from) || noFortnight(to) || to < from) {
            return BAD;
        }
        if (outside(sum, 0, TOP_PAY * (to - from + 1))) {
            return BAD;
        }
        Person who = persons[person];
        for (int f = from; f <= to; f++) {
            if (who.firmWith(f, LAST_DAY) >= 0) {
                return STATE;
            }
        }
        return who.addFirm(from, to, sum, now.today);
    }

    public int slip(int person, int fortnight, int pay) {
        if (noPerson(person) || noFortnight(fortnight) || outside(pay, 0, TOP_PAY)) {
            return BAD;
        }
        Person who = persons[person];
        // All days count here, so that some row COULD BE as of any day, even
        // if an image has brought back a TODAY ahead of FIRMS and SLIPS.
        lookAt(person, LAST_DAY);
        if (!view.isLoose(fortnight) || pay < view.leastPay(who, fortnight) || pay > view.mostPay(who, fortnight)) {
            return STATE;
        }
        who.slipPay[fortnight] = pay;
        who.slipDay[fortnight] = now.today;
        lookAt(person, now.today);
        return view.ways();
    }

    // ---- what could be

    public int could(int person, int day) {
        if (noPerson(person) || outside(day, 0, LAST_DAY)) {
            return BAD;
        }
        lookAt(person, day);
        return view.ways();
    }

    public int owed(int person, int day, int what) {
        if (noPerson(person) || outside(day, 0, LAST_DAY) || outside(what, BY_AVERAGE, BY_TRUTH)) {
            return BAD;
        }
        lookAtBounds(person, day);
        return view.owedBy(persons[person], what);
    }

    public int stands(int person, int day) {
        if (noPerson(person) || outside(day, 0, LAST_DAY)) {
            return BAD;
        }
        lookAtBounds(person, day);
        return view.spread() == 0 ? 1 : 0;
    }

    public int span(int person, int day, int fortnight, int what) {
        if (noPerson(person) || outside(day, 0, LAST_DAY) || noFortnight(fortnight) || outside(what, 0, 1)) {
            return BAD;
        }
        lookAt(person, day);
        if (!view.isInSpan(fortnight)) {
            return STATE;
        }
        Person who = persons[person];
        return what == 0 ? view.leastPay(who, fortnight) : view.mostPay(who, fortnight);
    }

    public int settles(int person, int day, int what) {
        if (noPerson(person) || outside(day, 0, LAST_DAY) || outside(what, 0, 1)) {
            return BAD;
        }
        lookAtBounds(person, day);
        Person who = persons[person];
        if (!view.couldBe(who, who.truth)) {
            return NONE;
        }
        int found = view.settlingSet(who.truth);
        return what == 0 ? Integer.bitCount(found) : found;
    }

    public int tells(int person, int day) {
        if (noPerson(person) || outside(day, 0, LAST_DAY)) {
            return BAD;
        }
        lookAtBounds(person, day);
        return view.tellingMost(persons[person]);
    }

    // ---- debts

    public int debt(int person, int by) {
        if (noPerson(person) || outside(by, BY_AVERAGE, BY_MOST)) {
            return BAD;
        }
        lookAtBounds(person, now.today);
        int amount = view.owedBy(persons[person], by);
        if (amount <= 0) {
            return STATE;
        }
        return now.debts.add(person, amount, now.today);
    }

    public int hold(int person, int pay, int part, int of) {
        if (noPerson(person) || outside(pay, 0, TOP_HOLD_PAY)) {
            return BAD;
        }
        if (outside(part, 1, TOP_SHARE) || outside(of, 1, TOP_SHARE) || part > of) {
            return BAD;
        }
        int share = pay * part / of;
        int taken = 0;
        for (int d = 0; d < now.debts.size; d++) {
            if (now.debts.person[d] == person && mayBeHeld(d)) {
                taken += now.debts.holdOf(d, share - taken);
            }
        }
        return taken;
    }

    public int set(int debt) {
        if (noDebt(debt)) {
            return BAD;
        }
        if (now.debts.isAside(debt)) {
            return STATE;
        }
        return now.debts.putAside(debt);
    }

    public int about(int debt, int what) {
        if (noDebt(debt) || outside(what, 0, 6)) {
            return BAD;
        }
        return now.debts.told(debt, what);
    }

    public int right(int debt, int day) {
        if (noDebt(debt) || outside(day, 0, LAST_DAY)) {
            return BAD;
        }
        lookAtBounds(now.debts.person[debt], day);
        int amount = now.debts.amount[debt];
        if (amount > view.mostOwed()) {
            return 2;
        }
        return amount > view.leastOwed() ? 1 : 0;
    }

    // ---- letters, calls

    public int place(int person, int what, int place) {
        if (noPerson(person) || outside(what, 0, 1) || outside(place, 0, TOP_PLACE)) {
            return BAD;
        }
        int[] places = what == 0 ? persons[person].lives : persons[person].known;
        int was = places[now.today];
        for (int d = now.today; d <= LAST_DAY; d++) {
            places[d] = place;
        }
        return was;
    }

    public int letter(int debt) {
        if (noDebt(debt)) {
            return BAD;
        }
        int to = persons[now.debts.person[debt]].known[now.today];
        return now.letters.add(debt, now.today, to);
    }

    public int post(int letter, int what) {
        if (outside(letter, 0, now.letters.size - 1) || outside(what, 0, 3)) {
            return BAD;
        }
        switch (what) {
            case 0: return now.letters.debt[letter];
            case 1: return now.letters.sent[letter];
            case 2: return now.letters.place[letter];
            default: return howItIs(letter);
        }
    }

    public int call(int person, int minutes) {
        if (noPerson(person) || outside(minutes, 1, DAY_MINUTES)) {
            return BAD;
        }
        if (!now.line.add(minutes)) {
            return FULL;
        }
        return now.line.waitOfLast();
    }

    public int day() {
        if (now.today >= LAST_DAY) {
            return STATE;
        }
        now.today++;
        return now.line.hear();
    }

    public int weight(int kind, int person, int fortnight) {
        if (outside(kind, 0, KINDS - 1) || noPerson(person) || noFortnight(fortnight)) {
            return BAD;
        }
        lookAt(person, now.today);
        return weigh(kind, persons[person], fortnight);
    }

    public int keep(int image) {
        if (outside(image, 0, IMAGES - 1)) {
            return BAD;
        }
        images[image].takeOver(now);
        images[image].kept = true;
        return now.today;
    }

    public int back(int image) {
        if (outside(image, 0, IMAGES - 1)) {
            return BAD;
        }
        if (!images[image].kept) {
            return STATE;
        }
        now.takeOver(images[image]);
        return now.today;
    }

    public int count(int what) {
        switch (what) {
            case 0: return book.size;
            case 1: return firmsOfAll();
            case 2: return slipsOfAll();
            case 3: return now.debts.size;
            case 4: return now.letters.size;
            case 5: return now.line.size;
            case 6: return now.today;
            case 7: return text.length;
            case 8: return now.debts.heldOfAll();
            case 9: return now.debts.feesOfAll();
            case 10: return now.debts.lostOfAll();
            default: return BAD;
        }
    }

    public long trace() {
        return traced;
    }

    // ---- what the calls share

    private static boolean outside(int v, int least, int most) {
        return v < least || v > most;
    }

    private static boolean noPerson(int person) {
        return outside(person, 0, PERSONS - 1);
    }

    private static boolean noFortnight(int fortnight) {
        return outside(fortnight, 0, FORTNIGHTS - 1);
    }

    private boolean noDebt(int debt) {
        return outside(debt, 0, now.debts.size - 1);
    }

    private void lookAt(int person, int day) {
        view.tables.use(book, book.inForce(day));
        view.look(persons[person], day);
    }

    /** A look with LEAST and MOST, whose rows are dear where nobody asks for them. */
    private void lookAtBounds(int person, int day) {
        lookAt(person, day);
        view.tables.makeDueRows(view.mostLoose());
    }

    private int howItIs(int letter) {
        int comes = now.letters.sent[letter] + DAYS_ON_THE_WAY;
        if (comes > now.today || comes > LAST_DAY) {
            return ON_ITS_WAY;
        }
        int person = now.debts.person[now.letters.debt[letter]];
        return persons[person].lives[comes] == now.letters.place[letter] ? COME : GONE;
    }

    private boolean mayBeHeld(int debt) {
        for (int i = 0; i < now.letters.size; i++) {
            boolean longAgo = now.letters.sent[i] + DAYS_ON_THE_WAY + DAYS_BEFORE_HOLD <= now.today;
            if (now.letters.debt[i] == debt && longAgo && howItIs(i) == COME) {
                return true;
            }
        }
        return false;
    }

    /** Needs a look at the person TODAY ahead of it. */
    private int weigh(int kind, Person who, int fortnight) {
        traced += MARKS[kind];
        // A KIND's number is above that of the KIND over it: two steps up at most.
        int above = ABOVE[kind];
        int up = above >= 0 && above < kind ? weigh(above, who, fortnight) : 0;
        switch (kind) {
            case 0: return 1;
            case 1: return up + who.told[fortnight];
            case 2: return up + 2 * view.sumOfSpan(who, fortnight);
            case 3: return up / 2;
            case 4: return up + view.tooMuch(who, fortnight);
            case 5: return 3 * up;
            case 6: return who.isShown(fortnight, now.today) ? up + 50 : up;
            default: return Math.max(0, up - 5);
        }
    }

    private int firmsOfAll() {
        int all = 0;
        for (int i = 0; i < PERSONS; i++) {
            all += persons[i].firms;
        }
        return all;
    }

    private int slipsOfAll() {
        int all = 0;
        for (int i = 0; i < PERSONS; i++) {
            for (int f = 0; f < FORTNIGHTS; f++) {
                if (persons[i].isShown(f, LAST_DAY)) {
                    all++;
                }
            }
        }
        return all;
    }

    /** THE RULES, in the order of their days. */
    private static final class RuleBook {
        final int[] from = new int[RULES];
        final int[] base = new int[RULES];
        final int[] free = new int[RULES];
        final int[] take = new int[RULES];
        final int[] by = new int[RULES];
        int size = 0;

        /** The last rule whose day is at most this one, or -1. */
        int inForce(int day) {
            for (int i = size - 1; i >= 0; i--) {
                if (from[i] <= day) {
                    return i;
                }
            }
            return -1;
        }

        int dueBy(int rule, int pay) {
            if (rule < 0 || rule >= size || by[rule] <= 0) {
                return 0;
            }
            int above = Math.max(0, pay - free[rule]);
            return Math.max(0, base[rule] - take[rule] * above / by[rule]);
        }

        void takeOver(RuleBook other) {
            size = other.size;
            copy(other.from, from);
            copy(other.base, base);
            copy(other.free, free);
            copy(other.take, take);
            copy(other.by, by);
        }
    }

    private static void copy(int[] source, int[] target) {
        System.arraycopy(source, 0, target, 0, Math.min(source.length, target.length));
    }

    /** THE TEXT, and its reading into a draft of rules. */
    private static final class RulesText {
        static final int SLOT_DAY = 1;
        static final int SLOT_BASE = 3;
        static final int SLOT_FREE = 5;
        static final int SLOT_TAKE = 7;
        static final int SLOT_BY = 9;
        static final int SLOTS = 11;

        final char[] bytes = new char[TEXT_BYTES];
        final RuleBook draft = new RuleBook();
        int length = 0;

        void append(long v, int n) {
            for (int i = n - 1; i >= 0 && length < TEXT_BYTES; i--) {
                bytes[length] = (char) ((v >>> (8 * i)) & 255);
                length++;
            }
        }

        /** The place of the fault, or -1 if the draft has the rules. */
        int read() {
            draft.size = 0;
            int slot = 0;
            int next = 0;
            for (int at = 0; at < length; at++) {
                if (at < next || bytes[at] == ' ') {
                    continue;
                }
                next = endOfToken(at);
                if (!canStand(slot, at, next)) {
                    return at;
                }
                slot++;
                if (slot == SLOTS) {
                    slot = 0;
                    draft.size++;
                }
            }
            return slot == 0 ? -1 : length;
        }

        private int endOfToken(int at) {
            int end = at + 1;
            if (isLetter(at)) {
                while (end < length && isLetter(end)) {
                    end++;
                }
            } else if (isDigit(at)) {
                while (end < length && isDigit(end)) {
                    end++;
                }
            }
            return end;
        }

        private boolean isLetter(int at) {
            char c = bytes[at];
            return c >= 'a' && c <= 'z' || c >= 'A' && c <= 'Z';
        }

        private boolean isDigit(int at) {
            return bytes[at] >= '0' && bytes[at] <= '9';
        }

        private boolean canStand(int slot, int at, int end) {
            int rule = draft.size;
            if (rule >= RULES) {
                return false;
            }
            switch (slot) {
                case SLOT_DAY: return putNumber(draft.from, at, end, rule == 0 ? 0 : draft.from[rule - 1] + 1, LAST_DAY);
                case SLOT_BASE: return putNumber(draft.base, at, end, 0, 99);
                case SLOT_FREE: return putNumber(draft.free, at, end, 0, 99);
                case SLOT_TAKE: return putNumber(draft.take, at, end, 1, TOP_SHARE);
                case SLOT_BY: return putNumber(draft.by, at, end, 1, TOP_SHARE);
                default: return isToken(fixedToken(slot), at, end);
            }
        }

        private boolean putNumber(int[] column, int at, int end, int least, int most) {
            int v = numberAt(at, end);
            if (v < 0 || outside(v, least, most) || draft.size >= column.length) {
                return false;
            }
            column[draft.size] = v;
            return true;
        }

        /** The number, or -1 if the token is none that a text may have. */
        private int numberAt(int at, int end) {
            boolean zeroAhead = bytes[at] == '0' && end - at > 1;
            if (!isDigit(at) || zeroAhead || end - at > 3) {
                return -1;
            }
            int v = 0;
            for (int i = at; i < end; i++) {
                v = v * 10 + (bytes[i] - '0');
            }
            return v;
        }

        private static String fixedToken(int slot) {
            switch (slot) {
                case 0: return "from";
                case 2: return "base";
                case 4: return "free";
                case 6: return "take";
                case 8: return "/";
                default: return ";";
            }
        }

        private boolean isToken(String wanted, int at, int end) {
            if (wanted.length() != end - at) {
                return false;
            }
            for (int i = at; i < end; i++) {
                if (bytes[i] != wanted.charAt(i - at)) {
                    return false;
                }
            }
            return true;
        }
    }

    /** What persons, firms, slips and moves told of one person. */
    private static final class Person {
        final int[] told = new int[FORTNIGHTS];
        final int[] truth = new int[FORTNIGHTS];
        final int[] slipPay = new int[FORTNIGHTS];
        final int[] slipDay = new int[FORTNIGHTS];
        final int[] firmFrom = new int[FIRMS];
        final int[] firmTo = new int[FIRMS];
        final int[] firmSum = new int[FIRMS];
        final int[] firmDay = new int[FIRMS];
        final int[] lives = new int[LAST_DAY + 1];
        final int[] known = new int[LAST_DAY + 1];
        int firms = 0;

        Person() {
            for (int f = 0; f < FORTNIGHTS; f++) {
                slipPay[f] = -1;
            }
        }

        int addFirm(int from, int to, int sum, int day) {
            if (firms >= FIRMS) {
                return FULL;
            }
            firmFrom[firms] = from;
            firmTo[firms] = to;
            firmSum[firms] = sum;
            firmDay[firms] = day;
            firms++;
            return firms;
        }

        /** The firm in whose span a fortnight is as of a day, or -1. */
        int firmWith(int fortnight, int day) {
            for (int i = 0; i < firms; i++) {
                if (firmDay[i] <= day && firmFrom[i] <= fortnight && fortnight <= firmTo[i]) {
                    return i;
                }
            }
            return -1;
        }

        boolean isShown(int fortnight, int day) {
            return slipPay[fortnight] >= 0 && slipDay[fortnight] <= day;
        }

        int average(int firm, int fortnight) {
            int length = firmTo[firm] - firmFrom[firm] + 1;
            if (length <= 0) {
                return 0;
            }
            int one = fortnight - firmFrom[firm] < firmSum[firm] % length ? 1 : 0;
            return firmSum[firm] / length + one;
        }
    }

    /**
     * For so many fortnights without a slip and so much that they have
     * together: in how many ways, and the least and the most that is DUE.
     * Which fortnights they are makes no difference, so these rows answer for
     * every span. Rows are made as far as they are needed: due rows are those
     * of one rule, way rows are good for ever.
     */
    private static final class Tables {
        static final int NO_RULE_YET = -2;

        final int[] dueOf = new int[TOP_PAY + 1];
        final int[][] least = new int[FORTNIGHTS + 1][TOP_SUM + 1];
        final int[][] most = new int[FORTNIGHTS + 1][TOP_SUM + 1];
        final int[][] ways = new int[FORTNIGHTS + 1][TOP_SUM + 1];
        int rule = NO_RULE_YET;
        int dueRows = 1;
        int wayRows = 1;

        Tables() {
            ways[0][0] = 1;
        }

        void forget() {
            rule = NO_RULE_YET;
        }

        void use(RuleBook book, int wanted) {
            if (rule == wanted) {
                return;
            }
            rule = wanted;
            dueRows = 1;
            for (int p = 0; p <= TOP_PAY; p++) {
                dueOf[p] = book.dueBy(wanted, p);
            }
        }

        int dueFor(int pay) {
            return outside(pay, 0, TOP_PAY) ? 0 : dueOf[pay];
        }

        void makeDueRows(int loose) {
            while (dueRows <= loose && dueRows <= FORTNIGHTS) {
                makeDueRow(dueRows);
                dueRows++;
            }
        }

        void makeWayRows(int loose) {
            while (wayRows <= loose && wayRows <= FORTNIGHTS) {
                makeWayRow(wayRows);
                wayRows++;
            }
        }

        int leastFor(int loose, int sum) {
            return isMade(loose, sum, dueRows) ? least[loose][sum] : 0;
        }

        int mostFor(int loose, int sum) {
            return isMade(loose, sum, dueRows) ? most[loose][sum] : 0;
        }

        int waysFor(int loose, int sum) {
            return isMade(loose, sum, wayRows) ? ways[loose][sum] : 0;
        }

        private static boolean isMade(int loose, int sum, int rows) {
            return loose >= 0 && loose < rows && sum >= 0 && sum <= TOP_PAY * loose;
        }

        private void makeWayRow(int k) {
            for (int sum = 0; sum <= TOP_PAY * k; sum++) {
                long all = 0;
                int top = Math.min(TOP_PAY, sum);
                for (int p = lowestLast(k, sum); p <= top; p++) {
                    all += ways[k - 1][sum - p];
                }
                ways[k][sum] = (int) (all % MODULUS);
            }
        }

        private void makeDueRow(int k) {
            for (int sum = 0; sum <= TOP_PAY * k; sum++) {
                int top = Math.min(TOP_PAY, sum);
                int first = lowestLast(k, sum);
                int low = least[k - 1][sum - first] + dueOf[first];
                int high = most[k - 1][sum - first] + dueOf[first];
                for (int p = first + 1; p <= top; p++) {
                    low = Math.min(low, least[k - 1][sum - p] + dueOf[p]);
                    high = Math.max(high, most[k - 1][sum - p] + dueOf[p]);
                }
                least[k][sum] = low;
                most[k][sum] = high;
            }
        }

        /** The least that the last of k may have, for the others to have the rest. */
        private static int lowestLast(int k, int sum) {
            return Math.max(0, sum - TOP_PAY * (k - 1));
        }
    }

    /** One person as of one day: the spans, and what slips leave of them. */
    private static final class AsOf {
        final Tables tables = new Tables();
        final int[] firmOf = new int[FORTNIGHTS];
        final int[] left = new int[FIRMS];
        final int[] loose = new int[FIRMS];
        int looseSet = 0;
        int paid = 0;
        int shownDue = 0;

        void look(Person who, int day) {
            looseSet = 0;
            paid = 0;
            shownDue = 0;
            for (int i = 0; i < FIRMS; i++) {
                boolean counts = i < who.firms && who.firmDay[i] <= day;
                left[i] = counts ? who.firmSum[i] : 0;
                loose[i] = counts ? who.firmTo[i] - who.firmFrom[i] + 1 : 0;
            }
            for (int f = 0; f < FORTNIGHTS; f++) {
                firmOf[f] = who.firmWith(f, day);
                if (firmOf[f] >= 0) {
                    paid += tables.dueFor(who.told[f]);
                    looseSet |= 1 << f;
                    if (who.isShown(f, day)) {
                        show(f, who.slipPay[f]);
                    }
                }
            }
        }

        boolean isInSpan(int fortnight) {
            return firmOf[fortnight] >= 0;
        }

        boolean isLoose(int fortnight) {
            return (looseSet >> fortnight & 1) == 1;
        }

        /** As if a slip of a fortnight that has none were SHOWN. */
        private void show(int fortnight, int pay) {
            int firm = firmOf[fortnight];
            if (firm >= 0) {
                left[firm] -= pay;
                loose[firm]--;
                shownDue += tables.dueFor(pay);
                looseSet &= ~(1 << fortnight);
            }
        }

        private void unshow(int fortnight, int pay) {
            int firm = firmOf[fortnight];
            if (firm >= 0) {
                left[firm] += pay;
                loose[firm]++;
                shownDue -= tables.dueFor(pay);
                looseSet |= 1 << fortnight;
            }
        }

        int leastPay(Person who, int fortnight) {
            if (!isLoose(fortnight)) {
                return who.slipPay[fortnight];
            }
            int firm = firmOf[fortnight];
            return firm < 0 ? 0 : Math.max(0, left[firm] - TOP_PAY * (loose[firm] - 1));
        }

        int mostPay(Person who, int fortnight) {
            if (!isLoose(fortnight)) {
                return who.slipPay[fortnight];
            }
            int firm = firmOf[fortnight];
            return firm < 0 ? 0 : Math.min(TOP_PAY, left[firm]);
        }

        int mostLoose() {
            int most = 0;
            for (int i = 0; i < FIRMS; i++) {
                most = Math.max(most, loose[i]);
            }
            return most;
        }

        int ways() {
            tables.makeWayRows(mostLoose());
            long all = 1;
            for (int i = 0; i < FIRMS; i++) {
                all = all * tables.waysFor(loose[i], left[i]) % MODULUS;
            }
            return (int) all;
        }

        int leastOwed() {
            int most = shownDue;
            for (int i = 0; i < FIRMS; i++) {
                most += tables.mostFor(loose[i], left[i]);
            }
            return Math.max(0, paid - most);
        }

        int mostOwed() {
            int least = shownDue;
            for (int i = 0; i < FIRMS; i++) {
                least += tables.leastFor(loose[i], left[i]);
            }
            return Math.max(0, paid - least);
        }

        int spread() {
            return mostOwed() - leastOwed();
        }

        int owedBy(Person who, int what) {
            if (what == BY_LEAST) {
                return leastOwed();
            }
            if (what == BY_MOST) {
                return mostOwed();
            }
            int all = 0;
            for (int f = 0; f < FORTNIGHTS; f++) {
                if (firmOf[f] >= 0) {
                    int pay = what == BY_AVERAGE ? who.average(firmOf[f], f) : who.truth[f];
                    all += tables.dueFor(pay);
                }
            }
            return Math.max(0, paid - all);
        }

        boolean couldBe(Person who, int[] row) {
            for (int f = 0; f < FORTNIGHTS; f++) {
                if (isInSpan(f) && !isLoose(f) && row[f] != who.slipPay[f]) {
                    return false;
                }
            }
            for (int i = 0; i < FIRMS; i++) {
                if (looseSum(i, row) != left[i]) {
                    return false;
                }
            }
            return true;
        }

        private int looseSum(int firm, int[] row) {
            int sum = 0;
            for (int f = 0; f < FORTNIGHTS; f++) {
                if (firmOf[f] == firm && isLoose(f)) {
                    sum += row[f];
                }
            }
            return sum;
        }

        /** The row COULD BE, so that showing all of it settles: there is a set. */
        int settlingSet(int[] row) {
            int free = looseSet;
            for (int size = 0; size < FORTNIGHTS; size++) {
                for (int bits = 0; bits <= free; bits++) {
                    if ((bits & ~free) == 0 && Integer.bitCount(bits) == size && settlesBy(bits, row)) {
                        return bits;
                    }
                }
            }
            return free;
        }

        private boolean settlesBy(int bits, int[] row) {
            for (int f = 0; f < FORTNIGHTS; f++) {
                if ((bits >> f & 1) == 1) {
                    show(f, row[f]);
                }
            }
            boolean settled = spread() == 0;
            for (int f = 0; f < FORTNIGHTS; f++) {
                if ((bits >> f & 1) == 1) {
                    unshow(f, row[f]);
                }
            }
            return settled;
        }

        int tellingMost(Person who) {
            int best = NONE;
            int bestSpread = 0;
            for (int f = 0; f < FORTNIGHTS; f++) {
                if (isLoose(f)) {
                    int spread = worstSpread(who, f);
                    if (best == NONE || spread < bestSpread) {
                        best = f;
                        bestSpread = spread;
                    }
                }
            }
            return best;
        }

        private int worstSpread(Person who, int fortnight) {
            int worst = 0;
            int top = mostPay(who, fortnight);
            for (int p = leastPay(who, fortnight); p <= top; p++) {
                show(fortnight, p);
                worst = Math.max(worst, spread());
                unshow(fortnight, p);
            }
            return worst;
        }

        int sumOfSpan(Person who, int fortnight) {
            int firm = firmOf[fortnight];
            return firm < 0 ? 0 : who.firmSum[firm];
        }

        /** What THE AVERAGE makes PAID more than DUE in one fortnight. */
        int tooMuch(Person who, int fortnight) {
            int firm = firmOf[fortnight];
            if (firm < 0) {
                return 0;
            }
            int paidThere = tables.dueFor(who.told[fortnight]);
            return Math.max(0, paidThere - tables.dueFor(who.average(firm, fortnight)));
        }
    }

    /** DEBTS, the oldest first; of each, open, held and aside are its amount. */
    private static final class Debts {
        final int[] person = new int[DEBTS];
        final int[] amount = new int[DEBTS];
        final int[] open = new int[DEBTS];
        final int[] held = new int[DEBTS];
        final int[] aside = new int[DEBTS];
        final int[] made = new int[DEBTS];
        final int[] fee = new int[DEBTS];
        int size = 0;

        int add(int who, int coins, int today) {
            if (size >= DEBTS) {
                return FULL;
            }
            person[size] = who;
            amount[size] = coins;
            open[size] = coins;
            held[size] = 0;
            aside[size] = 0;
            made[size] = today;
            fee[size] = 0;
            size++;
            return size - 1;
        }

        int holdOf(int debt, int wanted) {
            int coins = Math.max(0, Math.min(open[debt], wanted));
            open[debt] -= coins;
            held[debt] += coins;
            fee[debt] += (coins + 9) / 10;
            return coins;
        }

        /** An amount is never 0, so a debt that is aside has coins there. */
        boolean isAside(int debt) {
            return aside[debt] > 0;
        }

        int putAside(int debt) {
            int givenBack = held[debt];
            aside[debt] = amount[debt];
            open[debt] = 0;
            held[debt] = 0;
            return givenBack;
        }

        int told(int debt, int what) {
            switch (what) {
                case 0: return person[debt];
                case 1: return amount[debt];
                case 2: return open[debt];
                case 3: return held[debt];
                case 4: return aside[debt];
                case 5: return made[debt];
                default: return fee[debt];
            }
        }

        int heldOfAll() {
            int all = 0;
            for (int d = 0; d < size; d++) {
                all += held[d];
            }
            return all;
        }

        int feesOfAll() {
            int all = 0;
            for (int d = 0; d < size; d++) {
                all += fee[d];
            }
            return all;
        }

        /** LOST is what collectors had of debts that are aside now. */
        int lostOfAll() {
            int all = 0;
            for (int d = 0; d < size; d++) {
                all += isAside(d) ? fee[d] : 0;
            }
            return all;
        }

        void takeOver(Debts other) {
            size = other.size;
            copy(other.person, person);
            copy(other.amount, amount);
            copy(other.open, open);
            copy(other.held, held);
            copy(other.aside, aside);
            copy(other.made, made);
            copy(other.fee, fee);
        }
    }

    private static final class Letters {
        final int[] debt = new int[LETTERS];
        final int[] sent = new int[LETTERS];
        final int[] place = new int[LETTERS];
        int size = 0;

        int add(int ofDebt, int today, int to) {
            if (size >= LETTERS) {
                return FULL;
            }
            debt[size] = ofDebt;
            sent[size] = today;
            place[size] = to;
            size++;
            return size - 1;
        }

        void takeOver(Letters other) {
            size = other.size;
            copy(other.debt, debt);
            copy(other.sent, sent);
            copy(other.place, place);
        }
    }

    /** The line of calls; who waits is never asked for, so minutes are enough. */
    private static final class Line {
        final int[] minutes = new int[LINE];
        int size = 0;

        boolean add(int asked) {
            if (size >= LINE) {
                return false;
            }
            minutes[size] = asked;
            size++;
            return true;
        }

        int waitOfLast() {
            int days = 0;
            int used = 0;
            for (int i = 0; i < size; i++) {
                used += minutes[i];
                if (used > DAY_MINUTES) {
                    days++;
                    used = minutes[i];
                }
            }
            return days;
        }

        int hear() {
            int heard = 0;
            int used = 0;
            while (heard < size && used + minutes[heard] <= DAY_MINUTES) {
                used += minutes[heard];
                heard++;
            }
            for (int i = heard; i < size; i++) {
                minutes[i - heard] = minutes[i];
            }
            size -= heard;
            return heard;
        }

        void takeOver(Line other) {
            size = other.size;
            copy(other.minutes, minutes);
        }
    }

    /** All that an IMAGE keeps. */
    private static final class Books {
        final Debts debts = new Debts();
        final Letters letters = new Letters();
        final Line line = new Line();
        int today = 0;
        boolean kept = false;

        void takeOver(Books other) {
            debts.takeOver(other.debts);
            letters.takeOver(other.letters);
            line.takeOver(other.line);
            today = other.today;
        }
    }
}
