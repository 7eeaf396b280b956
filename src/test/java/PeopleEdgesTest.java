/** Edges of promises 1 to 7 and 36, and of the Terms 1 and 2: mills, hands, custom, papers, ages, the trace. */
public final class PeopleEdgesTest {
    private static final int BAD = MillInspectors.BAD, FULL = MillInspectors.FULL, NONE = MillInspectors.NONE;
    private static final int LOW = Integer.MIN_VALUE, HIGH = Integer.MAX_VALUE;

    public static void main(String[] args) {
        nothingIsThere();
        nothingIsShared();
        lastCallOfAnObject();
        millBounds();
        millsAreFull();
        handBounds();
        handsAreFull();
        customBounds();
        customByPapers();
        traceOfEachKind();
        paperBounds();
        papersAreFull();
        birthLooksAtNoDay();
        teethRoundedDown();
        certificates();
        bornBounds();
        contradictions();
        ageBounds();
        birthdays();
        Due.end("PeopleEdgesTest");
    }

    /** Promise 1: "Nothing is there." */
    private static void nothingIsThere() {
        MillInspectors x = new MillInspectors();
        for (int what = 0; what < 8; what++) {
            Due.is("new: count(" + what + ")", x.count(what), 0);
        }
        Due.is("new: trace", x.trace(), 0);
        Due.is("new: no hand, custom", x.custom(0, 0), BAD);
        Due.is("new: no hand, paper", x.paper(0, 0, 0, 0), BAD);
        Due.is("new: no hand, born", x.born(0, 0), BAD);
        Due.is("new: no hand, age", x.age(0, 0, 0), BAD);
        Due.is("new: no hand, work", x.work(0, 0, 0), BAD);
        Due.is("new: no hand, breach", x.breach(0, 0, 0), BAD);
        Due.is("new: no hand, clash", x.clash(0, 0), BAD);
        Due.is("new: no hand, doubted", x.doubted(0, 0, 0), BAD);
        Due.is("new: no hand, line at SCHOOL", x.line(0, 0, NONE, 0, 1), BAD);
        Due.is("new: no mill, check", x.check(0, 0, 0), BAD);
        Due.is("new: no mill, truth", x.truth(0, 0, 0), -999);
        Due.is("new: no mill, fines", x.fines(0), BAD);
        Due.is("new: no mill, doubt", x.doubt(0, 0), BAD);
        Due.is("new: no rule", x.rule(0, 0), BAD);
        Due.is("new: no case, suit", x.suit(0, 0), BAD);
        Due.is("new: no case, appeal", x.appeal(0), BAD);
        Due.is("new: fines of all", x.fines(NONE), 0);
        Due.is("new: the text is empty", x.clear(), 0);
        Due.is("new: the empty text has no rule", x.act(), 0);
        for (int what = 0; what < 3; what++) {
            Due.is("new: the way of no mill", x.way(200, what), 0);
        }
        x.hand(0, 0);
        Due.is("a hand, but no mill: line", x.line(0, 0, 0, 0, 1), BAD);
        Due.is("a hand, but no mill: duty", x.duty(0, 0, 0, 0, 1), BAD);
        Due.is("a hand, but no mill: why", x.why(0, 0, 0, 0, 1), BAD);
        Due.is("a hand, but no mill: quarrel", x.quarrel(0, 0, 0), BAD);
        Due.is("a hand, but no mill: sue", x.sue(0, 0, 0, 0), BAD);
        Due.is("a hand, but no mill: line at SCHOOL", x.line(0, 0, NONE, 0, 1), 1);
        MillInspectors y = new MillInspectors();
        y.mill(0, 1, 1);
        Due.is("a mill, but no hand: duty", y.duty(0, 0, 0, 0, 1), BAD);
        Due.is("a mill, but no hand: why", y.why(0, 0, 0, 0, 1), BAD);
        Due.is("a mill, but no hand: quarrel", y.quarrel(0, 0, 0), BAD);
        Due.is("a mill, but no hand: line", y.line(0, 0, 0, 0, 1), BAD);
        Due.is("a mill, but no hand: sue", y.sue(0, 0, 0, 0), BAD);
        y.hand(0, 0);
        Due.is("both, but no rule: binds", y.binds(0, 0, 0, 0), BAD);
    }

    private static void nothingIsShared() {
        for (int row = 0; row < Answers.ROWS; row++) {
            MillInspectors before = new MillInspectors();
            Answers.row(row, Busy.made());
            Due.holds("made ahead of a busy one and behind it, row " + row,
                Answers.row(row, before).equals(Answers.row(row, new MillInspectors())));
        }
    }

    /** What it is: "An object is used for at most 512 calls": the 512th is answered like the first. */
    private static void lastCallOfAnObject() {
        MillInspectors x = new MillInspectors();
        x.hand(5, 0);
        for (int call = 2; call <= 510; call++) {
            x.custom(5, 0);
        }
        Due.is("the 511th call", x.custom(5, 0), 480);
        Due.is("the 512th call", x.trace(), 510L * 100011);
    }

    /** Terms 1: "a TRADE 0 .. 3, an OWNER 1 .. 9, a TOWN 1 .. 8". */
    private static void millBounds() {
        Edge.of("mill, TRADE 0 .. 3", Busy::made, (x, n) -> x.mill(n, 1, 1)).takes(0, 2).takes(3, 2).refusesBeyond(BAD);
        Edge.of("mill, OWNER 1 .. 9", Busy::made, (x, n) -> x.mill(0, n, 1)).takes(1, 2).takes(9, 2).refusesBeyond(BAD);
        Edge.of("mill, TOWN 1 .. 8", Busy::made, (x, n) -> x.mill(0, 1, n)).takes(1, 2).takes(8, 2).refusesBeyond(BAD);
        for (int trade = 0; trade < 4; trade++) {
            for (int asked = 0; asked < 5; asked++) {
                MillInspectors x = new MillInspectors();
                x.mill(trade, 1, 1);
                x.hand(0, 0);
                Due.accepts(x, "rule 1 on 0-0:if trade=" + asked + " then bar;", 1);
                Due.is("TRADE " + trade + " is " + asked, x.binds(0, 0, 0, 0), trade == asked ? 2 : 0);
            }
        }
        for (int town = 1; town <= 8; town++) {
            MillInspectors x = new MillInspectors();
            x.mill(0, 1, town);
            x.doubt(0, 1);
            x.road(0, town, 3);
            Due.is("TOWN " + town + " is where the mill is", x.way(200, 2), 5);
        }
    }

    /** Terms 1: "MILLS (6 at most)". */
    private static void millsAreFull() {
        MillInspectors x = new MillInspectors();
        for (int i = 0; i < 6; i++) {
            Due.is("a mill's number", x.mill(3, 9, 8), i);
        }
        Edge.refused("a 7th mill", PeopleEdgesTest::sixMills, FULL, y -> y.mill(0, 1, 1));
        Edge.refused("a wrong 7th mill: BAD goes ahead of FULL", PeopleEdgesTest::sixMills, BAD, y -> y.mill(0, 1, 9));
        Due.is("the last mill is there", sixMills().doubt(5, 1), 0);
        Due.is("a 7th is not", sixMills().doubt(6, 1), BAD);
    }

    private static MillInspectors sixMills() {
        MillInspectors x = Busy.made();
        for (int i = 2; i < 6; i++) {
            x.mill(i % 4, i, i);
        }
        return x;
    }

    /** Terms 1: "HANDS (24 at most) have a KIND, a GRADE 0 .. 3", KINDS 0 .. 5. */
    private static void handBounds() {
        Edge.of("hand, KIND 0 .. 5", Busy::made, (x, n) -> x.hand(n, 0)).takes(0, 3).takes(5, 3).refusesBeyond(BAD);
        Edge.of("hand, GRADE 0 .. 3", Busy::made, (x, n) -> x.hand(0, n)).takes(0, 3).takes(3, 3).refusesBeyond(BAD);
        for (int kind = 0; kind < 6; kind++) {
            for (int asked = 0; asked < 7; asked++) {
                MillInspectors x = new MillInspectors();
                x.mill(0, 1, 1);
                x.hand(kind, 0);
                Due.accepts(x, "rule 1 on 0-0:if kind=" + asked + " then bar;", 1);
                Due.is("KIND " + kind + " is " + asked, x.binds(0, 0, 0, 0), kind == asked ? 2 : 0);
            }
        }
    }

    private static void handsAreFull() {
        MillInspectors x = new MillInspectors();
        for (int i = 0; i < 24; i++) {
            Due.is("a hand's number", x.hand(5, 3), i);
        }
        Edge.refused("a 25th hand", PeopleEdgesTest::manyHands, FULL, y -> y.hand(0, 0));
        Edge.refused("a wrong 25th hand: BAD goes ahead of FULL", PeopleEdgesTest::manyHands, BAD, y -> y.hand(6, 0));
        Due.is("the last hand is there", manyHands().born(23, 1), 10799);
        Due.is("a 25th is not", manyHands().born(24, 1), BAD);
        MillInspectors y = manyHands();
        Due.is("the last hand's first paper", y.paper(23, 0, 9999, 0), 1);
        Due.is("is its own", y.born(23, 0), 9999);
        Due.is("and not the one's ahead of it", y.born(22, 0), 0);
    }

    private static MillInspectors manyHands() {
        MillInspectors x = Busy.made();
        for (int i = 3; i < 24; i++) {
            x.hand(i % 6, i % 4);
        }
        return x;
    }

    private static void customBounds() {
        Edge.of("custom, KIND 0 .. 5", Busy::made, (x, n) -> x.custom(n, 0)).takes(0, 900).takes(5, 480).refusesBeyond(BAD);
        Edge.of("custom, a HAND", Busy::made, (x, n) -> x.custom(0, n)).takes(0, 900).takes(2, 900).refusesBeyond(BAD);
        Edge.of("custom, the last HAND", PeopleEdgesTest::manyHands, (x, n) -> x.custom(0, n)).takes(0, 900)
            .takes(23, 810).refusesBeyond(BAD);
        int[] ofHand = {900, 870, 840, 810};
        for (int grade = 0; grade < 4; grade++) {
            MillInspectors x = new MillInspectors();
            x.hand(4, grade);
            int up = ofHand[grade];
            int child = up / 2 + 30;
            int[] due = {up, child, up - 150, child - 45, up - up / 10, child};
            for (int kind = 0; kind < 6; kind++) {
                Due.is("custom as KIND " + kind + " of GRADE " + grade, x.custom(kind, 0), due[kind]);
            }
        }
    }

    /** Terms 1: "15 for each PAPER it has", none to three; a refused one is none. */
    private static void customByPapers() {
        MillInspectors x = new MillInspectors();
        x.hand(0, 3);
        x.hand(0, 3);
        for (int papers = 0; papers <= 3; papers++) {
            Due.is("DOUBTED with " + papers + " papers", x.custom(5, 0), 435 + 15 * papers);
            Due.is("DOUBTED without, beside it", x.custom(5, 1), 435);
            Due.is("CHILD with " + papers + " papers", x.custom(1, 0), 435);
            Due.is("a wrong paper", x.paper(0, 1, 33, 0), BAD);
            Due.is("the next paper", x.paper(0, 0, 5, 0), papers < 3 ? papers + 1 : FULL);
        }
        Due.is("DOUBTED behind a fourth", x.custom(5, 0), 435 + 45);
    }

    /** Terms 1: the numbers in brackets; promise 36. */
    private static void traceOfEachKind() {
        long[] due = {1, 11, 101, 1011, 10001, 100011};
        for (int kind = 0; kind < 6; kind++) {
            MillInspectors x = new MillInspectors();
            x.hand(5 - kind, 0);
            x.custom(kind, 0);
            Due.is("the trace of custom(" + kind + ")", x.trace(), due[kind]);
            x.custom(kind, 0);
            Due.is("the trace of twice custom(" + kind + ")", x.trace(), 2 * due[kind]);
            Due.is("asked again", x.trace(), 2 * due[kind]);
            x.custom(kind, 1);
            x.custom(6, 0);
            Due.is("the trace of refused ones", x.trace(), 2 * due[kind]);
        }
    }

    /** Terms 2: "0 BIRTH: n (0 .. 9999)", "1 TEETH: n (0 .. 32)", "2 CERTIFICATE: n (0 .. 30)", on a DAY. */
    private static void paperBounds() {
        Edge.of("paper, a HAND", Busy::made, (x, n) -> x.paper(n, 0, 1, 0)).takes(0, 1).takes(2, 2).refusesBeyond(BAD);
        Edge.of("paper, sort 0 .. 2", Busy::made, (x, n) -> x.paper(1, n, 1, 0)).takes(0, 2).takes(2, 2)
            .refusesBeyond(BAD);
        Edge.of("BIRTH 0 .. 9999", Busy::made, (x, n) -> x.paper(1, 0, n, 0)).takes(0, 2).takes(9999, 2)
            .refusesBeyond(BAD);
        Edge.of("TEETH 0 .. 32", Busy::made, (x, n) -> x.paper(1, 1, n, 0)).takes(0, 2).takes(32, 2).refusesBeyond(BAD);
        Edge.of("CERTIFICATE 0 .. 30", Busy::made, (x, n) -> x.paper(1, 2, n, 0)).takes(0, 2).takes(30, 2)
            .refusesBeyond(BAD);
        for (int sort = 1; sort <= 2; sort++) {
            int its = sort;
            Edge.of("the DAY of sort " + sort, Busy::made, (x, n) -> x.paper(1, its, 9, n)).takes(0, 2).takes(359, 2)
                .refusesBeyond(BAD);
        }
    }

    /** Terms 2: "PAPERS of a HAND (3 at most)". */
    private static void papersAreFull() {
        for (int sort = 0; sort < 3; sort++) {
            int its = sort;
            MillInspectors x = Busy.made();
            for (int k = 1; k <= 3; k++) {
                Due.is("paper " + k + " of sort " + sort, x.paper(0, sort, 3, 0), k);
            }
            Edge.refused("a fourth paper of sort " + sort, PeopleEdgesTest::threePapers, FULL, y -> y.paper(0, its, 3, 0));
            Edge.refused("a wrong fourth paper: BAD goes ahead of FULL", PeopleEdgesTest::threePapers, BAD,
                y -> y.paper(0, its, 10000, 0));
        }
        MillInspectors x = threePapers();
        Due.is("another hand has room", x.paper(2, 0, 3600, 0), 2);
    }

    private static MillInspectors threePapers() {
        MillInspectors x = Busy.made();
        for (int k = 0; k < 3; k++) {
            x.paper(0, 0, 3, 0);
        }
        return x;
    }

    /** Promise 5: "a DAY is looked at but for BIRTH". */
    private static void birthLooksAtNoDay() {
        for (int day : new int[] {LOW, -1, 0, 359, 360, HIGH}) {
            MillInspectors x = new MillInspectors();
            x.hand(0, 0);
            Due.is("a birth, with day " + day, x.paper(0, 0, 77, day), 1);
            Due.is("tells the same, from", x.born(0, 0), 77);
            Due.is("tells the same, to", x.born(0, 1), 77);
        }
    }

    private static MillInspectors with(int... papers) {
        MillInspectors x = new MillInspectors();
        x.hand(0, 0);
        for (int k = 0; k + 2 < papers.length; k += 3) {
            x.paper(0, papers[k], papers[k + 1], papers[k + 2]);
        }
        return x;
    }

    private static void span(String what, int from, int to, int contradict, int... papers) {
        MillInspectors x = with(papers);
        Due.is(what + ", from", x.born(0, 0), from);
        Due.is(what + ", to", x.born(0, 1), to);
        Due.is(what + ", contradict", x.born(0, 2), contradict);
    }

    /** Terms 2: "n by 3 years at least, rounded down, less than n by 2 and 5 years (rounded down)". */
    private static void teethRoundedDown() {
        int[] byThree = {0, 0, 0, 1, 1, 1, 2, 2, 2, 3, 3, 3, 4, 4, 4, 5, 5, 5, 6, 6, 6, 7, 7, 7, 8, 8, 8, 9, 9, 9, 10, 10, 10};
        int[] byTwo = {5, 5, 6, 6, 7, 7, 8, 8, 9, 9, 10, 10, 11, 11, 12, 12, 13, 13, 14, 14, 15, 15, 16, 16, 17, 17, 18, 18, 19,
            19, 20, 20, 21};
        for (int n = 0; n <= 32; n++) {
            span(n + " teeth on day 0", 360 * byThree[n], 360 * byTwo[n] - 1, 0, 1, n, 0);
            span(n + " teeth on day 359", Math.max(0, 360 * byThree[n] - 359), 360 * byTwo[n] - 360, 0, 1, n, 359);
        }
        MillInspectors x = with(1, 24, 100);
        Due.is("its age on the day the teeth were seen, from", x.age(0, 100, 0), 8);
        Due.is("its age on the day the teeth were seen, to", x.age(0, 100, 1), 16);
        Due.is("its age a day ahead, from", x.age(0, 99, 0), 7);
        Due.is("its age a day behind, to", x.age(0, 101, 1), 17);
    }

    /** Terms 2: "on a DAY it was n years at least". */
    private static void certificates() {
        for (int n = 1; n <= 29; n++) {
            span("certificate of " + n + " on day 0", 360 * n, 10799, 0, 2, n, 0);
            span("certificate of " + n + " on day 359", 360 * n - 359, 10799, 0, 2, n, 359);
        }
        span("certificate of 0 on day 359: not behind day 0", 0, 10799, 0, 2, 0, 359);
        span("certificate of 30 on day 359", 10441, 10799, 0, 2, 30, 359);
        span("certificate of 30 on day 1", 10799, 10799, 0, 2, 30, 1);
        span("certificate of 30 on day 0: there is no such day", 0, 10799, 1, 2, 30, 0);
    }

    private static void bornBounds() {
        Edge.of("born, a HAND", Busy::made, (x, n) -> x.born(n, 0)).takes(0, 0).takes(2, 3600).refusesBeyond(BAD);
        Edge.of("born, what 0 .. 2", Busy::made, (x, n) -> x.born(1, n)).takes(0, 2880).takes(1, 6119).takes(2, 0)
            .refusesBeyond(BAD);
        span("no paper", 0, 10799, 0);
        span("the latest birth", 0, 0, 0, 0, 0, 0);
        span("the earliest birth", 9999, 9999, 0, 0, 9999, 0);
    }

    /** Terms 2: "they CONTRADICT, if there is no such DAY (PAPERS tell nothing then: 0 .. 10799)". */
    private static void contradictions() {
        span("a birth at the least that the teeth leave", 2880, 2880, 0, 1, 24, 0, 0, 2880, 0);
        span("a birth a day below it", 0, 10799, 1, 1, 24, 0, 0, 2879, 0);
        span("a birth at the greatest that the teeth leave", 6119, 6119, 0, 1, 24, 0, 0, 6119, 0);
        span("a birth a day above it", 0, 10799, 1, 1, 24, 0, 0, 6120, 0);
        span("the birth told first, a day below", 0, 10799, 1, 0, 2879, 0, 1, 24, 0);
        span("a certificate a day above it", 0, 10799, 1, 1, 24, 0, 2, 17, 0);
        span("a certificate that leaves one day", 6119, 6119, 0, 1, 24, 0, 2, 17, 1);
        span("two births on one day", 5, 5, 0, 0, 5, 0, 0, 5, 0);
        span("two births a day apart", 0, 10799, 1, 0, 5, 0, 0, 6, 0);
        span("a third agrees with the first", 0, 10799, 1, 0, 5, 0, 0, 6, 0, 0, 5, 0);
        span("a third alone contradicts", 0, 10799, 1, 0, 5, 0, 0, 5, 0, 0, 4, 0);
        span("teeth apart by a day", 0, 10799, 1, 1, 0, 0, 1, 15, 0);
        span("teeth that just meet", 1799, 1799, 0, 1, 0, 0, 1, 15, 1);
        MillInspectors x = with(0, 5, 0, 0, 6, 0);
        Due.is("papers that contradict are papers still", x.custom(5, 0), 510);
        Due.is("and age tells nothing, from", x.age(0, 359, 0), 0);
        Due.is("and age tells nothing, to", x.age(0, 359, 1), 30);
    }

    private static void ageBounds() {
        Edge.of("age, a HAND", Busy::made, (x, n) -> x.age(n, 0, 0)).takes(0, 0).takes(2, 10).refusesBeyond(BAD);
        Edge.of("age, a DAY", Busy::made, (x, n) -> x.age(2, n, 0)).takes(0, 10).takes(359, 10).refusesBeyond(BAD);
        Edge.of("age, what 0 .. 1", Busy::made, (x, n) -> x.age(1, 0, n)).takes(0, 8).takes(1, 16).refusesBeyond(BAD);
    }

    /** Terms 2: "A year has 360 DAYS", "BORN and the DAY, by 360, rounded down". */
    private static void birthdays() {
        int[][] due = {{0, 0, 0}, {0, 359, 0}, {1, 358, 0}, {1, 359, 1}, {359, 0, 0}, {359, 1, 1}, {360, 0, 1},
            {360, 359, 1}, {361, 359, 2}, {719, 0, 1}, {720, 0, 2}, {9999, 80, 27}, {9999, 81, 28}, {9999, 359, 28}};
        for (int[] d : due) {
            MillInspectors x = with(0, d[0], 0);
            Due.is("born " + d[0] + ", on day " + d[1] + ", from", x.age(0, d[1], 0), d[2]);
            Due.is("born " + d[0] + ", on day " + d[1] + ", to", x.age(0, d[1], 1), d[2]);
        }
        MillInspectors none = with();
        Due.is("no paper, day 0, to", none.age(0, 0, 1), 29);
        Due.is("no paper, day 1, to", none.age(0, 1, 1), 30);
        Due.is("no paper, day 359, to", none.age(0, 359, 1), 30);
        Due.is("no paper, day 359, from", none.age(0, 359, 0), 0);
    }
}
