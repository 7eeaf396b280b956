/** Edges of promises 23 to 25, and of the Terms 5: periods, tables, lost minutes. */
public final class RelaysEdgesTest {
    private static final int BAD = MillInspectors.BAD, NONE = MillInspectors.NONE;

    public static void main(String[] args) {
        periodBounds();
        periodsAtFirst();
        lastWordCounts();
        canBounds();
        needs();
        minutesInAll();
        periodsInARow();
        periodsBehindTheLast();
        leastTables();
        allTables();
        lostBounds();
        quarters();
        quartersADay();
        justEnough();
        moreThanAnIntHolds();
        Due.end("RelaysEdgesTest");
    }

    /** Terms 5: "MINUTES (15 .. 300 each ..)", "NEEDS so many SETS (0 .. 3 ..)"; promise 23: "(0 .. 5)". */
    private static void periodBounds() {
        Edge.of("period 0 .. 5", Busy::made, (x, n) -> x.period(n, 90, 1)).takes(0, 1).takes(5, 1).refusesBeyond(BAD);
        Edge.of("period, MINUTES 15 .. 300", Busy::made, (x, n) -> x.period(0, n, 1)).takes(15, 1).takes(300, 1)
            .refusesBeyond(BAD);
        Edge.of("period, NEEDS 0 .. 3", Busy::made, (x, n) -> x.period(0, 90, n)).takes(0, 1).takes(3, 1)
            .refusesBeyond(BAD);
    }

    /** Terms 5: "90 at first", "1 at first". */
    private static void periodsAtFirst() {
        MillInspectors x = new MillInspectors();
        for (int p = 1; p <= 6; p++) {
            Due.is("one set in all of " + p, x.can(p, 1, 90 * p, 6, 0), 1);
            Due.is("the table of it", x.can(p, 1, 90 * p, 6, 1), (1 << p) - 1);
            Due.is("a minute less", x.can(p, 1, 90 * p - 1, 6, 0), 0);
            Due.is("no table then", x.can(p, 1, 90 * p - 1, 6, 1), NONE);
        }
    }

    private static void lastWordCounts() {
        for (int i = 0; i < 6; i++) {
            MillInspectors x = new MillInspectors();
            Due.is("told", x.period(i, 300, 3), 1);
            Due.is("told again", x.period(i, 15, 0), 1);
            Due.is("one less is needed", x.can(6, 1, 450, 6, 1), 63 & ~(1 << i));
            Due.is("its minutes", x.can(6, 1, 465, 6, 0), 2);
            Due.is("a minute less", x.can(6, 1, 464, 6, 0), 1);
        }
    }

    /** Promise 24: "BAD: M 0 .. 1800, q 1 .. 6"; Terms 5: p 1 .. 6, n 1 .. 3. */
    private static void canBounds() {
        Edge.of("can, p 1 .. 6", MillInspectors::new, (x, n) -> x.can(n, 1, 540, 6, 0))
            .takes(1, 1).takes(6, 1).refusesBeyond(BAD);
        Edge.of("can, n 1 .. 3", MillInspectors::new, (x, n) -> x.can(1, n, 90, 6, 0)).takes(1, 1).takes(3, 7)
            .refusesBeyond(BAD);
        Edge.of("can, M 0 .. 1800", MillInspectors::new, (x, n) -> x.can(1, 1, n, 6, 0)).takes(0, 0).takes(1800, 1)
            .refusesBeyond(BAD);
        Edge.of("can, q 1 .. 6", MillInspectors::new, (x, n) -> x.can(6, 1, 540, n, 0)).takes(1, 0).takes(6, 1)
            .refusesBeyond(BAD);
        Edge.of("can, what 0 .. 1", MillInspectors::new, (x, n) -> x.can(2, 1, 180, 6, n)).takes(0, 1).takes(1, 3)
            .refusesBeyond(BAD);
        Edge.of("can, p, of a busy one", Busy::made, (x, n) -> x.can(n, 3, 1800, 6, 1)).takes(1, 1)
            .takes(6, 2 * 64 + 47).refusesBeyond(BAD);
    }

    /** Terms 5: "each PERIOD has as many SETS in as it NEEDS at least". */
    private static void needs() {
        int[][] due = {{2, 1, 0, 0}, {4, 3, 1, 0}, {8, 7, 4, 1}};
        int[][] first = {{0, 1, NONE, NONE}, {0, 1, 65, NONE}, {0, 1, 65, 4161}};
        for (int n = 1; n <= 3; n++) {
            for (int needs = 0; needs <= 3; needs++) {
                MillInspectors x = new MillInspectors();
                x.period(0, 90, needs);
                Due.is(n + " sets for " + needs, x.can(1, n, 90, 1, 0), due[n - 1][needs]);
                Due.is(n + " sets for " + needs + ", the first", x.can(1, n, 90, 1, 1), first[n - 1][needs]);
            }
        }
    }

    private static MillInspectors all(int minutes, int needs) {
        MillInspectors x = new MillInspectors();
        for (int i = 0; i < 6; i++) {
            x.period(i, minutes, needs);
        }
        return x;
    }

    /** Terms 5: "in for M MINUTES at most in all", each SET by itself. */
    private static void minutesInAll() {
        Due.is("all six of 300", all(300, 1).can(6, 1, 1800, 6, 0), 1);
        Due.is("a minute less", all(300, 1).can(6, 1, 1799, 6, 0), 0);
        Due.is("all six of 15", all(15, 1).can(6, 1, 90, 6, 0), 1);
        Due.is("all six of 15, a minute less", all(15, 1).can(6, 1, 89, 6, 0), 0);
        Due.is("no minute", all(15, 0).can(6, 3, 0, 6, 0), 1);
        Due.is("no minute: the empty table", all(15, 0).can(6, 3, 0, 6, 1), 0);
        Due.is("14 minutes", all(15, 0).can(6, 1, 14, 6, 0), 1);
        Due.is("15 minutes", all(15, 0).can(6, 1, 15, 6, 0), 7);
        Due.is("29 minutes", all(15, 0).can(6, 1, 29, 6, 0), 7);
        Due.is("30 minutes", all(15, 0).can(6, 1, 30, 6, 0), 22);
        Due.is("three sets, two periods each", all(90, 1).can(6, 3, 180, 6, 0), 90);
        Due.is("three sets, a minute less", all(90, 1).can(6, 3, 179, 6, 0), 0);
        Due.is("three sets, all in at once", all(300, 3).can(6, 3, 1800, 6, 0), 1);
        Due.is("three sets, all in at once, the table", all(300, 3).can(6, 3, 1800, 6, 1), 262143);
        Due.is("three sets, a minute less each", all(300, 3).can(6, 3, 1799, 6, 1), NONE);
    }

    /** Terms 5: "for at most q PERIODS in a row". */
    private static void periodsInARow() {
        for (int p = 1; p <= 6; p++) {
            for (int q = 1; q <= 6; q++) {
                Due.is(p + " periods, " + q + " in a row", all(15, 1).can(p, 1, 1800, q, 0), p <= q ? 1 : 0);
            }
        }
        int[] withoutTwoInARow = {2, 3, 5, 8, 13, 21};
        for (int p = 1; p <= 6; p++) {
            Due.is("never two in a row of " + p, all(15, 0).can(p, 1, 1800, 1, 0), withoutTwoInARow[p - 1]);
        }
        Due.is("never three in a row of 6", all(15, 0).can(6, 1, 1800, 2, 0), 44);
        Due.is("never six in a row of 6", all(15, 0).can(6, 1, 1800, 5, 0), 63);
        Due.is("two sets by turns", all(15, 1).can(6, 2, 1800, 1, 0), 2);
        Due.is("two sets by turns, the first", all(15, 1).can(6, 2, 1800, 1, 1), 21 * 64 + 42);
    }

    /** PERIODS behind the p-th are not asked for, and no SET is in there. */
    private static void periodsBehindTheLast() {
        MillInspectors x = new MillInspectors();
        for (int i = 1; i < 6; i++) {
            x.period(i, 300, 3);
        }
        Due.is("the first alone", x.can(1, 1, 90, 1, 0), 1);
        Due.is("its table", x.can(1, 1, 90, 1, 1), 1);
        Due.is("with the second", x.can(2, 1, 1800, 6, 0), 0);
    }

    /** Terms 5: "the least of them as a number (SET 0's bits the lowest six, and so on)"; promise 24: NONE. */
    private static void leastTables() {
        Due.is("set 0 in all of them", all(90, 1).can(6, 3, 540, 6, 1), 63);
        Due.is("set 1 has the first period", all(90, 1).can(6, 2, 450, 6, 1), 64 + 62);
        Due.is("set 2 has the first period", all(90, 1).can(6, 3, 180, 6, 1), 3 * 4096 + 12 * 64 + 48);
        Due.is("two sets in everything", all(90, 2).can(6, 2, 540, 6, 1), 4095);
        Due.is("two of three in everything", all(90, 2).can(6, 3, 540, 6, 1), 4095);
        Due.is("the last period's bit", all(90, 1).can(6, 3, 90, 6, 1), NONE);
        MillInspectors x = all(90, 0);
        x.period(5, 90, 3);
        Due.is("three in the last period", x.can(6, 3, 90, 6, 1), 32 * 4096 + 32 * 64 + 32);
    }

    private static void allTables() {
        Due.is("every table of six periods and three sets", all(300, 0).can(6, 3, 1800, 6, 0), 262144);
        Due.is("every table of one period and one set", all(300, 0).can(1, 1, 1800, 6, 0), 2);
    }

    /** Terms 5: "LOST MINUTES (0 .. 2000) .. in d DAYS (1 .. 10) .. m MINUTES (0 .. 240)"; promise 25: "-1: BAD". */
    private static void lostBounds() {
        Edge.of("lost, MINUTES 0 .. 2000", Busy::made, (x, n) -> x.lost(n, 9, 240)).takes(0, 1)
            .takes(2000, ways(134, 9, 16)).refusesBeyond(-1);
        Edge.of("lost, d 1 .. 10", Busy::made, (x, n) -> x.lost(15, n, 15)).takes(1, 1).takes(10, 10).refusesBeyond(-1);
        Edge.of("lost, m 0 .. 240", Busy::made, (x, n) -> x.lost(2000, 9, n)).takes(0, 0).takes(240, ways(134, 9, 16))
            .refusesBeyond(-1);
    }

    /** Each DAY by itself, every number of quarters tried. */
    private static long ways(int quarters, int days, int most) {
        long[] found = new long[quarters + 1];
        found[0] = 1;
        for (int d = 0; d < days; d++) {
            long[] next = new long[quarters + 1];
            for (int had = 0; had <= quarters; had++) {
                for (int more = 0; more <= most && had + more <= quarters; more++) {
                    next[had + more] += found[had];
                }
            }
            found = next;
        }
        return found[quarters];
    }

    /** Terms 5: "so that they are made up, and no quarter more than needed". */
    private static void quarters() {
        MillInspectors x = new MillInspectors();
        int[][] due = {{0, 0}, {1, 1}, {14, 1}, {15, 1}, {16, 2}, {29, 2}, {30, 2}, {31, 3}, {1995, 133}, {1996, 134},
            {2000, 134}};
        for (int[] d : due) {
            Due.is(d[0] + " minutes are " + d[1] + " quarters", x.lost(d[0], 10, 240), ways(d[1], 10, 16));
        }
    }

    /** Terms 5: "by quarters of an hour, m MINUTES a DAY at most". */
    private static void quartersADay() {
        MillInspectors x = new MillInspectors();
        int[][] due = {{0, 0}, {14, 0}, {15, 1}, {29, 1}, {30, 2}, {44, 2}, {45, 3}, {239, 15}, {240, 16}};
        for (int[] d : due) {
            Due.is(d[0] + " minutes a day are " + d[1] + " quarters", x.lost(100, 4, d[0]), ways(7, 4, d[1]));
            Due.is("nothing lost, " + d[0] + " minutes a day", x.lost(0, 4, d[0]), 1);
        }
    }

    private static void justEnough() {
        MillInspectors x = new MillInspectors();
        for (int days = 1; days <= 8; days++) {
            Due.is("just all of " + days + " days", x.lost(240 * days, days, 240), 1);
            Due.is("a minute more than all of " + days + " days", x.lost(240 * days + 1, days, 240), 0);
            Due.is("a quarter less than all of " + days + " days", x.lost(240 * days - 15, days, 240), days);
        }
        Due.is("one day, one way", x.lost(60, 1, 60), 1);
        Due.is("one day, too little", x.lost(61, 1, 60), 0);
    }

    /** The answer is a long: half of all that can be made up in ten days has the most ways. */
    private static void moreThanAnIntHolds() {
        MillInspectors x = new MillInspectors();
        Due.is("80 quarters in ten days", x.lost(1200, 10, 240), ways(80, 10, 16));
        Due.holds("are more ways than an int holds", ways(80, 10, 16) > Integer.MAX_VALUE);
    }
}
