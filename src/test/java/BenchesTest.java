/** Promises 26 to 31 and 35: bench, base, sue, suit, appeal, fines, count. */
public final class BenchesTest {
    private static final int BAD = MillInspectors.BAD, STATE = MillInspectors.STATE, NONE = MillInspectors.NONE;

    public static void main(String[] args) {
        benches();
        bases();
        wrongSuits();
        suits();
        benchesWithoutKin();
        finesThatHang();
        appeals();
        fullCourt();
        counts();
        Due.end("BenchesTest");
    }

    /** Hands 0 and 1 are surely barred on day 0 at both mills; hand 2 has no line. */
    private static MillInspectors made() {
        MillInspectors x = new MillInspectors();
        x.mill(1, 4, 2);
        x.mill(2, 9, 3);
        x.hand(0, 0);
        x.hand(1, 0);
        x.hand(1, 0);
        Due.accepts(x, "rule 1 on 0-9:bar,paper,school 10;", 1);
        for (int hand = 0; hand < 2; hand++) {
            x.line(hand, 0, 0, 100, 200);
            x.line(hand, 0, 1, 300, 400);
            x.line(hand, 1, 0, 100, 200);
        }
        return x;
    }

    private static void benches() {
        MillInspectors x = new MillInspectors();
        Due.is("bench(-1)", x.bench(-1), BAD);
        Due.is("bench(1024)", x.bench(1024), BAD);
        int[] kin = {0, 1023, 1, 512, 2};
        for (int k = 0; k < 5; k++) {
            Due.is("bench " + k, x.bench(kin[k]), k);
        }
        Due.is("a sixth", x.bench(0), MillInspectors.FULL);
        Due.is("a wrong sixth", x.bench(1024), BAD);
        Due.is("BENCHES", x.count(4), 5);
    }

    private static void bases() {
        MillInspectors x = new MillInspectors();
        int[][] wrong = {{-1, 0}, {6, 0}, {0, -1}, {0, 501}};
        for (int[] w : wrong) {
            Due.is("wrong base", x.base(w[0], w[1]), BAD);
        }
        for (int of = 0; of < 6; of++) {
            Due.is("base at first", x.base(of, 500 - of), 20 * of + 20);
            Due.is("base then", x.base(of, 0), 500 - of);
        }
    }

    private static void wrongSuits() {
        MillInspectors x = made();
        Due.is("no bench", x.sue(0, 0, 0, 5), STATE);
        Due.is("no bench, wrong too", x.sue(0, 0, 0, 6), BAD);
        x.bench(0);
        int[][] wrong = {{2, 0, 0, 0}, {-1, 0, 0, 0}, {NONE, 0, 0, 0}, {0, 3, 0, 0}, {0, -1, 0, 0}, {0, 0, -1, 0},
            {0, 0, 360, 0}, {0, 0, 0, -1}, {0, 0, 0, 6}};
        for (int[] w : wrong) {
            Due.is("wrong sue", x.sue(w[0], w[1], w[2], w[3]), BAD);
        }
        Due.is("no breach of hours", x.sue(0, 0, 0, 0), STATE);
        Due.is("no line of that hand", x.sue(0, 2, 0, 5), STATE);
        Due.is("no line of that day", x.sue(0, 0, 2, 5), STATE);
        Due.is("no line at that mill", x.sue(1, 0, 1, 5), STATE);
        Due.is("CASES", x.count(5), 0);
        Due.accepts(x, "rule 1 on 0-9:if age<9 then bar;", 1);
        Due.is("maybe is not enough", x.sue(0, 0, 0, 5), STATE);
        Due.accepts(x, "rule 1 on 0-9:if mill=1 then bar;", 1);
        Due.is("a breach at the other mill, a line at this one", x.sue(0, 0, 0, 5), 0);
        Due.is("at this mill alone", x.sue(0, 0, 1, 5), STATE);
        int[][] none = {{1, 0}, {-1, 0}, {0, 5}, {0, -1}};
        for (int[] w : none) {
            Due.is("wrong suit", x.suit(w[0], w[1]), BAD);
        }
        Due.is("appeal(1)", x.appeal(1), BAD);
        Due.is("appeal(-1)", x.appeal(-1), BAD);
        Due.is("fines(2)", x.fines(2), BAD);
        Due.is("fines(-1)", x.fines(-1), BAD);
        Due.is("fines(1)", x.fines(1), 0);
    }

    private static void suits() {
        MillInspectors x = made();
        x.bench(16);
        x.bench(0);
        Due.is("a case", x.sue(0, 1, 1, 4), 0);
        Due.is("another", x.sue(1, 0, 0, 2), 1);
        int[] first = {1, 100, 1, 0, 4};
        int[] second = {0, 60, 1, 1, 2};
        for (int what = 0; what < 5; what++) {
            Due.is("suit(0, " + what + ")", x.suit(0, what), first[what]);
            Due.is("suit(1, " + what + ")", x.suit(1, what), second[what]);
        }
        Due.accepts(x, "", 0);
        Due.is("it stands though the act is another", x.suit(0, 2), 1);
    }

    private static void benchesWithoutKin() {
        MillInspectors x = made();
        x.bench(1 << 4 | 1 << 9);
        Due.is("owner 4", x.sue(0, 0, 0, 5), STATE);
        Due.is("owner 9", x.sue(1, 0, 0, 5), STATE);
        x.bench(1 << 4 | 1);
        Due.is("owner 4 still", x.sue(0, 0, 0, 5), STATE);
        Due.is("owner 9 can be", x.sue(1, 0, 0, 5), 0);
        x.bench(1023 & ~(1 << 4));
        x.bench(0);
        Due.is("owner 4 can be", x.sue(0, 0, 0, 5), 1);
        Due.is("the least bench", x.suit(1, 0), 2);
        Due.is("owner 9's", x.suit(0, 0), 1);
    }

    private static void finesThatHang() {
        MillInspectors x = made();
        x.bench(0);
        x.sue(0, 0, 0, 5);
        x.sue(0, 1, 0, 4);
        x.sue(1, 0, 0, 5);
        x.sue(0, 0, 0, 2);
        int[] due = {120, 200, 120, 180};
        for (int i = 0; i < 4; i++) {
            Due.is("fine " + i, x.suit(i, 1), due[i]);
        }
        Due.is("fines of mill 0", x.fines(0), 500);
        Due.is("fines of mill 1", x.fines(1), 120);
        Due.is("fines of all", x.fines(NONE), 620);
        x.base(4, 7);
        Due.is("as base is now", x.suit(1, 1), 14);
        Due.is("one falls", x.appeal(1), 1);
        Due.is("it is fined no more", x.suit(1, 1), 0);
        Due.is("nor stands", x.suit(1, 2), 0);
        Due.is("a later one hangs on fewer", x.suit(3, 1), 120);
        Due.is("fines then", x.fines(NONE), 360);
    }

    private static void appeals() {
        MillInspectors x = made();
        x.bench(0);
        x.sue(0, 0, 0, 5);
        x.sue(0, 0, 0, 4);
        x.sue(1, 0, 0, 5);
        x.sue(0, 1, 0, 5);
        x.sue(0, 0, 1, 5);
        Due.is("appeal of the third", x.appeal(2), 2);
        Due.is("the first stands", x.suit(0, 2), 1);
        Due.is("the fifth doesn't", x.suit(4, 2), 0);
        Due.is("those that stand", x.count(6), 3);
        Due.is("all cases", x.count(5), 5);
        Due.is("appeal of what stands no more", x.appeal(4), STATE);
        x.sue(1, 0, 0, 5);
        Due.is("of the first: itself and the new one", x.appeal(0), 2);
        Due.is("left: another duty's, another hand's", x.count(6), 2);
        Due.is("another duty's", x.suit(1, 2), 1);
        Due.is("another hand's", x.suit(3, 2), 1);
    }

    private static void fullCourt() {
        MillInspectors x = made();
        x.bench(0);
        for (int i = 0; i < 20; i++) {
            Due.is("case " + i, x.sue(0, i % 2, 0, 5), i);
        }
        Due.is("a 21st", x.sue(0, 0, 0, 5), MillInspectors.FULL);
        Due.is("a 21st that cannot be", x.sue(0, 0, 0, 0), STATE);
        Due.is("a wrong 21st", x.sue(0, 0, 0, 6), BAD);
        Due.is("the last fine", x.suit(19, 1), 2400);
        Due.is("ten fall", x.appeal(0), 10);
        Due.is("fallen ones count as cases", x.sue(0, 0, 0, 5), MillInspectors.FULL);
    }

    private static void counts() {
        MillInspectors x = made();
        x.bench(0);
        x.bench(0);
        x.sue(0, 0, 0, 5);
        x.sue(0, 1, 0, 5);
        x.appeal(1);
        x.type(0, 7);
        int[] due = {2, 3, 1, 6, 2, 2, 1, 7};
        for (int what = 0; what < 8; what++) {
            Due.is("count(" + what + ")", x.count(what), due[what]);
        }
        Due.is("count(8)", x.count(8), BAD);
        Due.is("count(-1)", x.count(-1), BAD);
    }
}
