/** Edges of promises 26 to 31 and 35, and of the Terms 6 up to VISITS: benches, cases, fines, appeals, counts. */
public final class CourtEdgesTest {
    private static final int BAD = MillInspectors.BAD, STATE = MillInspectors.STATE, FULL = MillInspectors.FULL;
    private static final int NONE = MillInspectors.NONE;

    public static void main(String[] args) {
        benchBounds();
        benchesAreFull();
        kinOfEachOwner();
        baseBounds();
        sueBounds();
        benchBreachAndLine();
        casesAreFull();
        stateGoesAheadOfFull();
        suitBounds();
        finesThatHang();
        finesAsBaseIs();
        greatestFines();
        appealBounds();
        whatFallsByAnAppeal();
        finesBounds();
        countBounds();
        countsAtTheirMost();
        Due.end("CourtEdgesTest");
    }

    /** Mills 0 and 1; hands 0, 1 and 2 at both on day 0, hand 0 at mill 0 alone on day 1; all duties but HOURS broken. */
    private static MillInspectors made() {
        MillInspectors x = new MillInspectors();
        x.mill(1, 1, 2);
        x.mill(2, 9, 3);
        Due.type(x, "rule 1 on 0-1:bar,paper,school 9,rest 9;rule 2 on 0-1:from 700 to 701;");
        x.act();
        for (int hand = 0; hand < 3; hand++) {
            x.hand(0, 0);
            x.line(hand, 0, 0, 100, 200);
            x.line(hand, 0, 1, 300, 400);
        }
        x.line(0, 1, 0, 100, 200);
        return x;
    }

    private static MillInspectors withBench() {
        MillInspectors x = made();
        x.bench(0);
        return x;
    }

    /** Terms 6: "BENCHES are sets of KIN (bits 1 .. 9 of 0 .. 1023)". */
    private static void benchBounds() {
        Edge.of("bench, KIN 0 .. 1023", Busy::made, (x, n) -> x.bench(n)).takes(0, 2).takes(1023, 2).refusesBeyond(BAD);
    }

    /** Terms 6: "BENCHES (5 at most)". */
    private static void benchesAreFull() {
        MillInspectors x = new MillInspectors();
        for (int k = 0; k < 5; k++) {
            Due.is("a bench's number", x.bench(1023), k);
        }
        Edge.refused("a sixth bench", CourtEdgesTest::fiveBenches, FULL, y -> y.bench(0));
        Edge.refused("a wrong sixth: BAD goes ahead of FULL", CourtEdgesTest::fiveBenches, BAD, y -> y.bench(1024));
        MillInspectors last = made();
        for (int k = 0; k < 4; k++) {
            last.bench(1023);
        }
        Due.is("no bench without its kin", last.sue(0, 0, 0, 5), STATE);
        last.bench(0);
        Due.is("the fifth is without", last.sue(0, 0, 0, 5), 0);
        Due.is("the fifth it is", last.suit(0, 0), 4);
    }

    private static MillInspectors fiveBenches() {
        MillInspectors x = Busy.made();
        for (int k = 2; k < 5; k++) {
            x.bench(1023);
        }
        return x;
    }

    /** Terms 6: "the least BENCH without the OWNER's KIN"; bit 0 is nobody's. */
    private static void kinOfEachOwner() {
        for (int owner = 1; owner <= 9; owner++) {
            MillInspectors x = new MillInspectors();
            x.mill(0, owner, 1);
            x.hand(0, 0);
            x.line(0, 0, 0, 0, 901);
            Due.is("no bench", x.sue(0, 0, 0, 0), STATE);
            x.bench(1 << owner);
            Due.is("kin of owner " + owner, x.sue(0, 0, 0, 0), STATE);
            x.bench(1023);
            Due.is("everybody's kin", x.sue(0, 0, 0, 0), STATE);
            x.bench(1023 & ~(1 << owner));
            x.bench(0);
            Due.is("everybody's kin but owner " + owner, x.sue(0, 0, 0, 0), 0);
            Due.is("the least bench", x.suit(0, 0), 2);
        }
        MillInspectors x = made();
        x.bench(1);
        Due.is("bit 0 is no owner's, mill 0", x.sue(0, 0, 0, 5), 0);
        Due.is("bit 0 is no owner's, mill 1", x.sue(1, 0, 0, 5), 1);
        x.bench(0);
        Due.is("the first of two", x.suit(0, 0), 0);
    }

    /** Terms 6: "BASE of the DUTY (0 .. 500; 20 times its number and 20 at first)"; promise 27: "(0 .. 5)". */
    private static void baseBounds() {
        Edge.of("base, a DUTY 0 .. 5", Busy::made, (x, n) -> x.base(n, 1)).takes(0, 20).takes(2, 33).takes(5, 120)
            .refusesBeyond(BAD);
        Edge.of("base, 0 .. 500", Busy::made, (x, n) -> x.base(3, n)).takes(0, 80).takes(500, 80).refusesBeyond(BAD);
        MillInspectors x = new MillInspectors();
        for (int of = 0; of < 6; of++) {
            Due.is("base at first of " + of, x.base(of, 500), 20 * of + 20);
            Due.is("what it was", x.base(of, 0), 500);
            Due.is("what it was then", x.base(of, of), 0);
        }
        for (int of = 0; of < 6; of++) {
            Due.is("each by itself", x.base(of, 0), of);
        }
    }

    private static void sueBounds() {
        Edge.of("sue, a MILL", CourtEdgesTest::withBench, (x, n) -> x.sue(n, 0, 0, 5)).takes(0, 0).takes(1, 0)
            .refuses(NONE, BAD).refusesBeyond(BAD);
        Edge.of("sue, a HAND", CourtEdgesTest::withBench, (x, n) -> x.sue(0, n, 0, 5)).takes(0, 0).takes(2, 0)
            .refusesBeyond(BAD);
        Edge.of("sue, a DAY", CourtEdgesTest::withBench, (x, n) -> x.sue(0, 0, n, 5)).takes(0, 0).takes(1, 0)
            .refuses(2, STATE).refuses(359, STATE).refuses(-1, BAD).refuses(360, BAD).refuses(Integer.MIN_VALUE, BAD);
        Edge.of("sue, a DUTY", CourtEdgesTest::withBench, (x, n) -> x.sue(0, 0, 0, n)).takes(1, 0).takes(5, 0)
            .refuses(0, STATE).refuses(-1, BAD).refuses(6, BAD).refuses(Integer.MAX_VALUE, BAD);
        MillInspectors last = new MillInspectors();
        last.mill(0, 1, 1);
        last.hand(0, 0);
        last.bench(0);
        last.line(0, 359, 0, 0, 901);
        Due.is("sue on the last day", last.sue(0, 0, 359, 0), 0);
    }

    /** Promise 28: "STATE: there is no such BREACH, LINE, or BENCH". */
    private static void benchBreachAndLine() {
        Edge.refused("no bench", CourtEdgesTest::made, STATE, x -> x.sue(0, 0, 0, 5));
        Edge.refused("no bench, and a wrong number: BAD goes ahead of STATE", CourtEdgesTest::made, BAD,
            x -> x.sue(0, 0, 360, 5));
        Edge.refused("no breach", CourtEdgesTest::withBench, STATE, x -> x.sue(0, 0, 0, 0));
        Edge.refused("no line that day", CourtEdgesTest::withBench, STATE, x -> x.sue(0, 1, 1, 5));
        Edge.refused("no line at that mill that day", CourtEdgesTest::withBench, STATE, x -> x.sue(1, 0, 1, 5));
        Edge.refused("a breach maybe", Busy::made, STATE, x -> x.sue(0, 0, 0, 5));
        Due.is("which there is maybe", Busy.made().breach(0, 0, 5), 1);
        MillInspectors x = new MillInspectors();
        x.mill(0, 1, 1);
        x.hand(0, 0);
        x.bench(0);
        x.line(0, 0, 0, 0, 900);
        Due.is("just custom", x.sue(0, 0, 0, 0), STATE);
        x.line(0, 0, 0, 900, 901);
        Due.is("a minute more", x.sue(0, 0, 0, 0), 0);
    }

    private static MillInspectors twentyCases() {
        MillInspectors x = withBench();
        for (int i = 0; i < 20; i++) {
            x.sue(i % 2, i % 3, 0, 1 + i % 5);
        }
        return x;
    }

    /** Terms 6: "A CASE (20 at most)"; one that stands no more is a CASE still. */
    private static void casesAreFull() {
        MillInspectors x = withBench();
        for (int i = 0; i < 20; i++) {
            Due.is("a case's number", x.sue(0, 0, 0, 5), i);
        }
        Edge.refused("a 21st case", CourtEdgesTest::twentyCases, FULL, y -> y.sue(0, 0, 0, 5));
        Due.is("all fall", x.appeal(0), 20);
        Due.is("and leave no room", x.sue(0, 0, 0, 5), FULL);
    }

    private static void stateGoesAheadOfFull() {
        Edge.refused("a wrong 21st: BAD", CourtEdgesTest::twentyCases, BAD, x -> x.sue(0, 0, 0, 6));
        Edge.refused("a 21st without a breach: STATE", CourtEdgesTest::twentyCases, STATE, x -> x.sue(0, 0, 0, 0));
        Edge.refused("a 21st without a line: STATE", CourtEdgesTest::twentyCases, STATE, x -> x.sue(1, 0, 1, 5));
    }

    /** Promise 29. */
    private static void suitBounds() {
        Edge.of("suit, a CASE", Busy::made, (x, n) -> x.suit(n, 3)).takes(0, 0).takes(1, 1).takes(3, 0).refusesBeyond(BAD);
        Edge.of("suit, the last CASE", CourtEdgesTest::twentyCases, (x, n) -> x.suit(n, 4)).takes(0, 1).takes(19, 5)
            .refusesBeyond(BAD);
        Edge.of("suit, what 0 .. 4", Busy::made, (x, n) -> x.suit(2, n)).takes(0, 1).takes(1, 66).takes(2, 1).takes(3, 0)
            .takes(4, 2).refusesBeyond(BAD);
        Due.is("the fallen one's bench", Busy.made().suit(3, 0), 1);
        Due.is("the fallen one's fine", Busy.made().suit(3, 1), 0);
        Due.is("the fallen one stands no more", Busy.made().suit(3, 2), 0);
        Due.is("the fallen one's mill", Busy.made().suit(3, 3), 0);
        Due.is("the fallen one's duty", Busy.made().suit(3, 4), 1);
    }

    /** Terms 6: "times 1 and how many CASES of that MILL ahead of it stand". */
    private static void finesThatHang() {
        MillInspectors x = withBench();
        x.sue(0, 0, 0, 5);
        x.sue(1, 1, 0, 4);
        x.sue(0, 2, 0, 3);
        x.sue(0, 1, 0, 2);
        x.sue(1, 0, 0, 1);
        fines(x, "all stand", 120, 100, 160, 180, 80);
        x.appeal(2);
        fines(x, "one in the middle fell", 120, 100, 0, 120, 80);
        x.appeal(0);
        fines(x, "the first fell", 0, 100, 0, 60, 80);
        x.appeal(4);
        fines(x, "the other mill's last fell", 0, 100, 0, 60, 0);
        x.appeal(1);
        x.appeal(3);
        fines(x, "all fell", 0, 0, 0, 0, 0);
        x.sue(0, 0, 0, 5);
        Due.is("the next one hangs on none", x.suit(5, 1), 120);
    }

    private static void fines(MillInspectors x, String when, int... due) {
        int[] sums = new int[2];
        for (int i = 0; i < due.length; i++) {
            Due.is(when + ": fine " + i, x.suit(i, 1), due[i]);
            sums[x.suit(i, 3)] += due[i];
        }
        Due.is(when + ": fines of mill 0", x.fines(0), sums[0]);
        Due.is(when + ": fines of mill 1", x.fines(1), sums[1]);
        Due.is(when + ": fines of all", x.fines(NONE), sums[0] + sums[1]);
    }

    /** Terms 6: "as BASE is, as they stand when it is asked". */
    private static void finesAsBaseIs() {
        MillInspectors x = withBench();
        x.base(5, 500);
        x.sue(0, 0, 0, 5);
        Due.is("as base is", x.suit(0, 1), 500);
        x.base(5, 0);
        Due.is("as base is then", x.suit(0, 1), 0);
        x.base(4, 77);
        Due.is("another duty's base", x.suit(0, 1), 0);
        x.base(5, 501);
        Due.is("a refused base", x.suit(0, 1), 0);
        x.base(5, 3);
        Due.is("as base is at last", x.fines(NONE), 3);
    }

    private static void greatestFines() {
        MillInspectors x = withBench();
        x.base(5, 500);
        for (int i = 0; i < 20; i++) {
            x.sue(0, 0, 0, 5);
        }
        Due.is("the twentieth fine", x.suit(19, 1), 10000);
        Due.is("all together", x.fines(0), 105000);
        Due.is("of the other mill", x.fines(1), 0);
        Due.is("of all", x.fines(NONE), 105000);
    }

    private static void appealBounds() {
        Edge.of("appeal, a CASE", Busy::made, (x, n) -> x.appeal(n)).takes(0, 2).takes(2, 1).refuses(3, STATE)
            .refuses(4, BAD).refuses(-1, BAD).refuses(NONE, BAD).refuses(Integer.MIN_VALUE, BAD)
            .refuses(Integer.MAX_VALUE, BAD);
        Edge.of("appeal, the last CASE", CourtEdgesTest::twentyCases, (x, n) -> x.appeal(n)).takes(0, 2).takes(19, 1)
            .refusesBeyond(BAD);
        MillInspectors x = Busy.made();
        Due.is("appeal", x.appeal(0), 2);
        Due.is("appeal again: STATE", x.appeal(0), STATE);
        Due.is("appeal of one that fell by it: STATE", x.appeal(1), STATE);
    }

    /** Terms 6: "a CASE stands no more, nor do those behind it that are of the same HAND and DUTY". */
    private static void whatFallsByAnAppeal() {
        MillInspectors x = withBench();
        int[][] cases = {{0, 0, 0, 5}, {0, 1, 0, 5}, {0, 0, 0, 4}, {1, 0, 0, 5}, {0, 0, 1, 5}, {0, 0, 0, 5}};
        for (int[] c : cases) {
            x.sue(c[0], c[1], c[2], c[3]);
        }
        Due.is("the fourth: at another mill, and the two behind it", x.appeal(3), 3);
        int[] due = {1, 1, 1, 0, 0, 0};
        for (int i = 0; i < 6; i++) {
            Due.is("whether case " + i + " stands", x.suit(i, 2), due[i]);
        }
        Due.is("those that stand", x.count(6), 3);
        Due.is("the first: those that fell already do not count", x.appeal(0), 1);
        Due.is("another hand's stands", x.suit(1, 2), 1);
        Due.is("another duty's stands", x.suit(2, 2), 1);
        Due.is("the last is alone", x.sue(0, 0, 0, 5), 6);
        Due.is("appeal of the last", x.appeal(6), 1);
    }

    /** Promise 31: "FINES of a MILL (NONE: of all)". */
    private static void finesBounds() {
        Edge.of("fines, a MILL", Busy::made, (x, n) -> x.fines(n)).takes(0, 20 + 66).takes(1, 20).refusesBeyond(BAD);
        Edge.of("fines, NONE", Busy::made, (x, n) -> x.fines(n)).takes(NONE, 106).refuses(NONE - 1, BAD)
            .refuses(NONE + 1, BAD);
        Due.is("fines of no case", made().fines(NONE), 0);
        Due.is("fines of a mill without a case", made().fines(1), 0);
    }

    /** Promise 35. */
    private static void countBounds() {
        Edge.of("count, what 0 .. 7", Busy::made, (x, n) -> x.count(n)).takes(0, 2).takes(1, 3).takes(2, 3).takes(3, 6)
            .takes(4, 2).takes(5, 4).takes(6, 3).takes(7, Busy.TYPED.length()).refusesBeyond(BAD);
    }

    private static void countsAtTheirMost() {
        MillInspectors x = withBench();
        for (int i = 0; i < 70; i++) {
            x.mill(0, 1, 1);
            x.hand(0, 0);
            x.line(0, 2, NONE, 0, 1);
            x.bench(0);
            x.sue(0, i % 2, 0, 5);
        }
        x.appeal(19);
        int[] due = {6, 24, 2, 60, 5, 20, 19, 0};
        for (int what = 0; what < 8; what++) {
            Due.is("count(" + what + ") at its most", x.count(what), due[what]);
        }
    }
}
