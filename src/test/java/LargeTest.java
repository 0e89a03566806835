import java.math.BigInteger;
import java.util.Random;

/** Spans with too many rows to write down: fortnight by fortnight, each with the pays it may have. */
public final class LargeTest {
    private static final BigInteger MODULUS = BigInteger.valueOf(1000000007);
    private static final Check check = new Check();

    private final Random random;
    private final LetterDebts x;
    private final int[] told = new int[10];
    private final int[] truth = new int[10];
    private final int[] slips = new int[10];
    private final int[] firmOf = new int[10];
    private final int[] sums;

    private LargeTest(int seed, int firms) {
        random = new Random(seed);
        int by = 1 + random.nextInt(12);
        x = Check.with("from 0 base " + (15 + random.nextInt(50)) + " free " + random.nextInt(12)
            + " take " + (1 + random.nextInt(20)) + "/" + by + ";");
        sums = new int[firms];
        for (int f = 0; f < 10; f++) {
            slips[f] = -1;
            firmOf[f] = f * firms / 10;
            told[f] = random.nextInt(8);
            truth[f] = random.nextInt(21);
            sums[firmOf[f]] += truth[f];
            x.pay(2, f, 0, told[f]);
            x.pay(2, f, 1, truth[f]);
        }
        for (int i = 0; i < firms; i++) {
            int from = 0;
            while (firmOf[from] != i) {
                from++;
            }
            int to = from;
            while (to < 9 && firmOf[to + 1] == i) {
                to++;
            }
            check.due("firm", x.firm(2, from, to, sums[i]), i + 1);
        }
    }

    public static void main(String[] args) {
        for (int seed = 0; seed < 60; seed++) {
            LargeTest test = new LargeTest(seed, 1 + seed % 3);
            test.ask(seed % 10 < 3);
            for (int i = 0; i < 6; i++) {
                test.show(test.random.nextInt(10));
                test.ask(i > 2);
            }
        }
        check.end();
    }

    private void show(int f) {
        int pay = truth[f];
        boolean has = slips[f] >= 0;
        slips[f] = pay;
        check.due("slip", x.slip(2, f, pay), has ? Check.STATE : ways());
    }

    private int ways() {
        BigInteger all = BigInteger.ONE;
        for (int i = 0; i < sums.length; i++) {
            BigInteger[] ways = new BigInteger[sums[i] + 1];
            java.util.Arrays.fill(ways, BigInteger.ZERO);
            ways[0] = BigInteger.ONE;
            for (int f = 0; f < 10; f++) {
                if (firmOf[f] == i) {
                    BigInteger[] more = new BigInteger[sums[i] + 1];
                    java.util.Arrays.fill(more, BigInteger.ZERO);
                    for (int s = 0; s <= sums[i]; s++) {
                        for (int p = 0; p <= 20 && s + p <= sums[i]; p++) {
                            if (slips[f] < 0 || slips[f] == p) {
                                more[s + p] = more[s + p].add(ways[s]);
                            }
                        }
                    }
                    ways = more;
                }
            }
            all = all.multiply(ways[sums[i]]);
        }
        return all.mod(MODULUS).intValue();
    }

    /** LEAST and MOST with slips; null, if no row could be. */
    private int[] bounds() {
        int low = 0;
        int high = 0;
        for (int i = 0; i < sums.length; i++) {
            int[][] reach = new int[sums[i] + 1][];
            reach[0] = new int[] {0, 0};
            for (int f = 0; f < 10; f++) {
                if (firmOf[f] == i) {
                    reach = step(reach, f);
                }
            }
            if (reach[sums[i]] == null) {
                return null;
            }
            low += reach[sums[i]][0];
            high += reach[sums[i]][1];
        }
        return new int[] {Math.max(0, low), Math.max(0, high)};
    }

    private int[][] step(int[][] reach, int f) {
        int[][] more = new int[reach.length][];
        for (int s = 0; s < reach.length; s++) {
            for (int p = 0; p <= 20 && s + p < reach.length && reach[s] != null; p++) {
                if (slips[f] < 0 || slips[f] == p) {
                    int owed = x.due(told[f], 0) - x.due(p, 0);
                    int low = reach[s][0] + owed;
                    int high = reach[s][1] + owed;
                    int[] was = more[s + p];
                    more[s + p] = was == null ? new int[] {low, high}
                        : new int[] {Math.min(was[0], low), Math.max(was[1], high)};
                }
            }
        }
        return more;
    }

    private void ask(boolean settlesToo) {
        int[] b = bounds();
        check.due("could", x.could(2, 0), ways());
        check.due("least", x.owed(2, 0, 1), b[0]);
        check.due("most", x.owed(2, 0, 2), b[1]);
        check.due("stands", x.stands(2, 0), b[0] == b[1] ? 1 : 0);
        check.due("tells", x.tells(2, 0), telling());
        if (settlesToo) {
            int set = settling();
            check.due("settles", x.settles(2, 0, 1), set);
            check.due("settles, how many", x.settles(2, 0, 0), Integer.bitCount(set));
        }
    }

    private int telling() {
        int best = Check.NONE;
        int least = Integer.MAX_VALUE;
        for (int f = 0; f < 10; f++) {
            if (slips[f] >= 0) {
                continue;
            }
            int greatest = 0;
            for (int p = 0; p <= 20; p++) {
                slips[f] = p;
                int[] b = bounds();
                greatest = b == null ? greatest : Math.max(greatest, b[1] - b[0]);
            }
            slips[f] = -1;
            if (greatest < least) {
                least = greatest;
                best = f;
            }
        }
        return best;
    }

    private int settling() {
        int best = -1;
        for (int set = 0; set < 1024; set++) {
            if (best < 0 || Integer.bitCount(set) < Integer.bitCount(best)) {
                int[] were = slips.clone();
                for (int f = 0; f < 10; f++) {
                    slips[f] = (set >> f & 1) == 1 ? truth[f] : slips[f];
                }
                int[] b = bounds();
                best = b[0] == b[1] ? set : best;
                System.arraycopy(were, 0, slips, 0, 10);
            }
        }
        return best;
    }
}
