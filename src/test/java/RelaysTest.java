/** Promises 23 to 25: period, can, lost. */
public final class RelaysTest {
    private static final int BAD = MillInspectors.BAD;

    public static void main(String[] args) {
        periods();
        tables();
        againstAllTables();
        wrongTables();
        lostTime();
        againstAllWays();
        Due.end("RelaysTest");
    }

    private static void periods() {
        MillInspectors x = new MillInspectors();
        int[][] wrong = {{-1, 90, 1}, {6, 90, 1}, {0, 14, 1}, {0, 301, 1}, {0, 90, -1}, {0, 90, 4}};
        for (int[] w : wrong) {
            Due.is("wrong period", x.period(w[0], w[1], w[2]), BAD);
        }
        Due.is("periods as at first", x.can(6, 1, 540, 6, 0), 1);
        Due.is("period 5", x.period(5, 15, 0), 1);
        Due.is("period 0", x.period(0, 300, 3), 1);
        Due.is("minutes of period 0", x.can(1, 3, 299, 6, 0), 0);
        Due.is("needs of period 0", x.can(1, 3, 300, 6, 1), 1 + 64 + 4096);
        Due.is("period 0 again", x.period(0, 20, 1), 1);
        Due.is("minutes of all", x.can(6, 1, 20 + 4 * 90 + 15, 6, 0), 2);
        Due.is("one less", x.can(6, 1, 20 + 4 * 90 + 14, 6, 0), 1);
    }

    private static void tables() {
        MillInspectors x = new MillInspectors();
        Due.is("none", x.can(2, 1, 89, 6, 0), 0);
        Due.is("the first of none", x.can(2, 1, 89, 6, 1), MillInspectors.NONE);
        Due.is("two in a row are not let", x.can(2, 1, 1800, 1, 1), MillInspectors.NONE);
        Due.is("two sets by turns", x.can(2, 2, 1800, 1, 0), 2);
        Due.is("the first of them", x.can(2, 2, 1800, 1, 1), 2 + 64);
        Due.is("the first leaves the last sets out", x.can(6, 3, 1800, 6, 1), 63);
        for (int i = 0; i < 6; i++) {
            x.period(i, 15, 0);
        }
        Due.is("all tables", x.can(6, 3, 1800, 6, 0), 262144);
        Due.is("the first is empty", x.can(6, 3, 1800, 6, 1), 0);
        Due.is("no minute at all", x.can(6, 3, 0, 6, 0), 1);
    }

    private static int[] naive(int[][] periods, int p, int n, int most, int q) {
        int found = 0;
        int first = MillInspectors.NONE;
        for (int table = 0; table < 1 << 6 * n; table++) {
            boolean can = true;
            for (int set = 0; set < n && can; set++) {
                int bits = table >> 6 * set & 63;
                int minutes = 0;
                int row = 0;
                can = bits < 1 << p;
                for (int i = 0; i < p && can; i++) {
                    boolean in = (bits >> i & 1) == 1;
                    minutes += in ? periods[i][0] : 0;
                    row = in ? row + 1 : 0;
                    can = minutes <= most && row <= q;
                }
            }
            for (int i = 0; i < p && can; i++) {
                int in = 0;
                for (int set = 0; set < n; set++) {
                    in += table >> 6 * set + i & 1;
                }
                can = in >= periods[i][1];
            }
            if (can) {
                found++;
                first = first == MillInspectors.NONE ? table : first;
            }
        }
        return new int[] {found, first};
    }

    private static void againstAllTables() {
        java.util.Random random = new java.util.Random(5);
        for (int run = 0; run < 120; run++) {
            MillInspectors x = new MillInspectors();
            int[][] periods = new int[6][];
            for (int i = 0; i < 6; i++) {
                periods[i] = new int[] {15 + random.nextInt(286), random.nextInt(run % 3 + 2)};
                x.period(i, periods[i][0], periods[i][1]);
            }
            int p = 1 + random.nextInt(6);
            int n = 1 + random.nextInt(3);
            int most = random.nextInt(1801);
            int q = 1 + random.nextInt(6);
            int[] due = naive(periods, p, n, most, q);
            Due.is("can, run " + run, x.can(p, n, most, q, 0), due[0]);
            Due.is("can, the first, run " + run, x.can(p, n, most, q, 1), due[1]);
        }
    }

    private static void wrongTables() {
        MillInspectors x = new MillInspectors();
        int[][] wrong = {{0, 1, 0, 1, 0}, {7, 1, 0, 1, 0}, {1, 0, 0, 1, 0}, {1, 4, 0, 1, 0}, {1, 1, -1, 1, 0},
            {1, 1, 1801, 1, 0}, {1, 1, 0, 0, 0}, {1, 1, 0, 7, 0}, {1, 1, 0, 1, -1}, {1, 1, 0, 1, 2}};
        for (int[] w : wrong) {
            Due.is("wrong can", x.can(w[0], w[1], w[2], w[3], w[4]), BAD);
        }
    }

    private static void lostTime() {
        MillInspectors x = new MillInspectors();
        Due.is("nothing lost", x.lost(0, 10, 240), 1);
        Due.is("nothing lost, nothing let", x.lost(0, 1, 0), 1);
        Due.is("a minute, nothing let", x.lost(1, 10, 14), 0);
        Due.is("a minute", x.lost(1, 10, 15), 10);
        Due.is("15 minutes", x.lost(15, 10, 29), 10);
        Due.is("16 minutes, a quarter a day", x.lost(16, 10, 29), 45);
        Due.is("16 minutes", x.lost(16, 10, 30), 55);
        Due.is("all but a quarter", x.lost(2000, 9, 225), 9);
        Due.is("just all that is let", x.lost(1575, 7, 239), 1);
        Due.is("too much", x.lost(2000, 1, 240), 0);
        Due.is("the most", x.lost(1200, 10, 240), naiveWays(80, 10, 16));
        int[][] wrong = {{-1, 1, 0}, {2001, 1, 0}, {0, 0, 0}, {0, 11, 0}, {0, 1, -1}, {0, 1, 241}};
        for (int[] w : wrong) {
            Due.is("wrong lost", x.lost(w[0], w[1], w[2]), -1);
        }
    }

    /** By Vandermonde's way of taking out what is too much: sums of signed binomials. */
    private static long naiveWays(int quarters, int days, int most) {
        java.math.BigInteger sum = java.math.BigInteger.ZERO;
        for (int k = 0; k <= days && quarters - k * (most + 1) >= 0; k++) {
            java.math.BigInteger term = binomial(days, k).multiply(binomial(quarters - k * (most + 1) + days - 1, days - 1));
            sum = k % 2 == 0 ? sum.add(term) : sum.subtract(term);
        }
        return sum.longValueExact();
    }

    private static java.math.BigInteger binomial(int n, int k) {
        java.math.BigInteger b = java.math.BigInteger.ONE;
        for (int i = 1; i <= k; i++) {
            b = b.multiply(java.math.BigInteger.valueOf(n - k + i)).divide(java.math.BigInteger.valueOf(i));
        }
        return b;
    }

    private static void againstAllWays() {
        MillInspectors x = new MillInspectors();
        for (int minutes = 0; minutes <= 2000; minutes += 133) {
            for (int days = 1; days <= 10; days += 3) {
                for (int most = 0; most <= 240; most += 48) {
                    Due.is("lost(" + minutes + ", " + days + ", " + most + ")", x.lost(minutes, days, most),
                        naiveWays((minutes + 14) / 15, days, most / 15));
                }
            }
        }
    }
}
