import java.util.Random;

/** One call of the class with its numbers, for tests that make calls by the thousand. */
record AnyCall(int which, long v, int a, int b, int c, int d) {
    static final int WHICH = 28;
    private static final int[] EXTREMES = {Integer.MIN_VALUE, Integer.MIN_VALUE + 1, -1000, -256, -9, -3, -2, -1, 6, 7, 8, 9, 10, 11,
        19, 20, 21, 29, 30, 31, 39, 40, 41, 59, 60, 61, 99, 100, 199, 200, 201, 255, 256, 999, 1000, 65536,
        Integer.MAX_VALUE - 1, Integer.MAX_VALUE};
    private static final String BYTES = "from base free take /;0123456789     ";
    private static final String RULE = "from 0 base 40 free 3 take 3/4;";

    /** Mostly numbers that are as told; one in so many is any. */
    static AnyCall some(Random random, int oneIn) {
        return new AnyCall(random.nextInt(WHICH), bytes(random), number(random, oneIn), number(random, oneIn),
            number(random, oneIn), number(random, oneIn));
    }

    private static int number(Random random, int oneIn) {
        if (random.nextInt(oneIn) > 0) {
            return random.nextInt(random.nextInt(3) == 0 ? 10 : 3);
        }
        return random.nextBoolean() ? EXTREMES[random.nextInt(EXTREMES.length)] : random.nextInt();
    }

    private static long bytes(Random random) {
        if (random.nextInt(4) == 0) {
            return random.nextLong();
        }
        long v = 0;
        for (int i = 0; i < 8; i++) {
            v = v << 8 | BYTES.charAt(random.nextInt(BYTES.length()));
        }
        return v;
    }

    long on(LetterDebts x) {
        switch (which) {
            case 0: return x.type(v, a + 1);
            case 1: return v % 4 == 0 ? x.clear() : Check.ruled(x, v % 4 == 1 ? RULE : Scenes.rules(1 + (int) (v & 3)));
            case 2: return x.rules();
            case 3: return x.due(a, b);
            case 4: return x.pay(a, b, c, d);
            case 5: return x.firm(a, b, c, d);
            case 6: return x.slip(a, b, c);
            case 7: return x.could(a, b);
            case 8: return x.owed(a, b, c);
            case 9: return x.stands(a, b);
            case 10: return x.span(a, b, c, d);
            case 11: return x.settles(a, b, c);
            case 12: return x.tells(a, b);
            case 13: return x.debt(a, b);
            case 14: return x.hold(a, 100 * b + c, c, d);
            case 15: return x.set(a);
            case 16: return x.about(a, b);
            case 17: return x.right(a, b);
            case 18: return x.place(a, b, c);
            case 19: return x.letter(a);
            case 20: return x.post(a, b);
            case 21: return x.call(a, 10 * b + c);
            case 22: return x.day();
            case 23: return x.weight(a, b, c);
            case 24: return x.keep(a);
            case 25: return x.back(a);
            case 26: return x.count(a);
            default: return x.trace();
        }
    }
}
