/** Promises 1 to 7 and 36: a new object, mills, hands, custom, papers, born, age, trace. */
public final class PapersTest {
    public static void main(String[] args) {
        newObject();
        mills();
        hands();
        customs();
        papers();
        born();
        ages();
        Due.end("PapersTest");
    }

    private static void newObject() {
        MillInspectors x = new MillInspectors();
        for (int what = 0; what <= 7; what++) {
            Due.is("count(" + what + ") of a new object", x.count(what), 0);
        }
        Due.is("trace() of a new object", x.trace(), 0);
        Due.is("clear() of a new object", x.clear(), 0);
        Due.is("fines(NONE) of a new object", x.fines(MillInspectors.NONE), 0);
        Due.is("way(200, 0) of a new object", x.way(200, 0), 0);
        Due.is("way(200, 2) of a new object", x.way(200, 2), 0);
        MillInspectors y = new MillInspectors();
        x.mill(0, 1, 1);
        x.custom(0, x.hand(0, 0));
        Due.is("another object's MILLS", y.count(0), 0);
        Due.is("another object's trace", y.trace(), 0);
    }

    private static void mills() {
        MillInspectors x = new MillInspectors();
        int[][] wrong = {{-1, 1, 1}, {4, 1, 1}, {0, 0, 1}, {0, 10, 1}, {0, 1, 0}, {0, 1, 9},
            {Integer.MIN_VALUE, 1, 1}, {0, Integer.MAX_VALUE, 1}, {0, 1, Integer.MIN_VALUE}};
        for (int[] m : wrong) {
            Due.is("wrong mill", x.mill(m[0], m[1], m[2]), MillInspectors.BAD);
        }
        Due.is("MILLS after wrong ones", x.count(0), 0);
        for (int i = 0; i < 6; i++) {
            Due.is("mill " + i, x.mill(i % 4, i == 5 ? 9 : 1, i == 5 ? 8 : 1), i);
        }
        Due.is("a seventh mill", x.mill(0, 1, 1), MillInspectors.FULL);
        Due.is("a wrong seventh mill", x.mill(4, 1, 1), MillInspectors.BAD);
        Due.is("MILLS", x.count(0), 6);
    }

    private static void hands() {
        MillInspectors x = new MillInspectors();
        int[][] wrong = {{-1, 0}, {6, 0}, {0, -1}, {0, 4}};
        for (int[] h : wrong) {
            Due.is("wrong hand", x.hand(h[0], h[1]), MillInspectors.BAD);
        }
        for (int i = 0; i < 24; i++) {
            Due.is("hand " + i, x.hand(i % 6, i % 4), i);
        }
        Due.is("a 25th hand", x.hand(0, 0), MillInspectors.FULL);
        Due.is("a wrong 25th hand", x.hand(0, 4), MillInspectors.BAD);
        Due.is("HANDS", x.count(1), 24);
    }

    private static void customs() {
        MillInspectors x = new MillInspectors();
        for (int grade = 0; grade < 4; grade++) {
            x.hand(0, grade);
        }
        int[][] due = {{900, 480, 750, 435, 810, 480}, {870, 465, 720, 420, 783, 465},
            {840, 450, 690, 405, 756, 450}, {810, 435, 660, 390, 729, 435}};
        long[] traces = {1, 11, 101, 1011, 10001, 100011};
        long trace = 0;
        for (int hand = 0; hand < 4; hand++) {
            for (int kind = 0; kind < 6; kind++) {
                Due.is("custom(" + kind + ", " + hand + ")", x.custom(kind, hand), due[hand][kind]);
                trace += traces[kind];
                Due.is("trace() after custom(" + kind + ")", x.trace(), trace);
            }
        }
        Due.is("custom of no kind", x.custom(6, 0), MillInspectors.BAD);
        Due.is("custom of kind -1", x.custom(-1, 0), MillInspectors.BAD);
        Due.is("custom of no hand", x.custom(0, 4), MillInspectors.BAD);
        Due.is("custom of hand -1", x.custom(0, -1), MillInspectors.BAD);
        x.paper(0, 0, 9, 0);
        x.paper(0, 0, 9, 0);
        x.mill(0, 1, 1);
        Due.is("duty by custom", x.duty(0, 0, 0, 0, 1), 900);
        Due.is("trace() is by custom() alone", x.trace(), trace);
        Due.is("custom of a doubted one with two papers", x.custom(5, 0), 510);
        Due.is("custom of a child with two papers", x.custom(1, 0), 480);
    }

    private static void papers() {
        MillInspectors x = new MillInspectors();
        x.hand(0, 0);
        int[][] wrong = {{-1, 0, 0, 0}, {1, 0, 0, 0}, {0, -1, 0, 0}, {0, 3, 0, 0}, {0, 0, -1, 0}, {0, 0, 10000, 0},
            {0, 1, -1, 0}, {0, 1, 33, 0}, {0, 2, -1, 0}, {0, 2, 31, 0}, {0, 1, 0, -1}, {0, 1, 0, 360}, {0, 2, 0, -1},
            {0, 2, 0, 360}};
        for (int[] p : wrong) {
            Due.is("wrong paper", x.paper(p[0], p[1], p[2], p[3]), MillInspectors.BAD);
        }
        Due.is("a birth, no matter the day", x.paper(0, 0, 9999, -5), 1);
        Due.is("teeth", x.paper(0, 1, 32, 359), 2);
        Due.is("certificate", x.paper(0, 2, 30, 359), 3);
        Due.is("a fourth", x.paper(0, 2, 30, 359), MillInspectors.FULL);
        Due.is("a wrong fourth", x.paper(0, 2, 31, 359), MillInspectors.BAD);
    }

    private static void span(String what, int from, int to, int contradict, int... papers) {
        MillInspectors x = new MillInspectors();
        x.hand(0, 0);
        for (int k = 0; k + 2 < papers.length; k += 3) {
            x.paper(0, papers[k], papers[k + 1], papers[k + 2]);
        }
        Due.is(what + ": from", x.born(0, 0), from);
        Due.is(what + ": to", x.born(0, 1), to);
        Due.is(what + ": contradict", x.born(0, 2), contradict);
    }

    private static void born() {
        span("no paper", 0, 10799, 0);
        span("birth", 3000, 3000, 0, 0, 3000, 0);
        span("teeth, rounded down", 2880, 6119, 0, 1, 25, 0);
        span("teeth on a day", 2880 - 100, 6119 - 100, 0, 1, 24, 100);
        span("no teeth", 0, 1800 - 360, 0, 1, 0, 359);
        span("all teeth", 3600, 7559, 0, 1, 32, 0);
        span("certificate", 3600 - 10, 10799, 0, 2, 10, 10);
        span("certificate of none", 0, 10799, 0, 2, 0, 100);
        span("the highest certificate that can be", 10799, 10799, 0, 2, 30, 1);
        span("a certificate above all", 0, 10799, 1, 2, 30, 0);
        span("birth and certificate", 3600, 3600, 0, 0, 3600, 0, 2, 10, 0);
        span("birth a day too late for a certificate", 0, 10799, 1, 0, 3599, 0, 2, 10, 0);
        span("two births", 0, 10799, 1, 0, 1, 0, 0, 2, 0);
        span("a third paper mends nothing", 0, 10799, 1, 0, 1, 0, 0, 2, 0, 0, 1, 0);
        span("teeth and certificate", 4220, 6119, 0, 1, 24, 0, 2, 12, 100);
        MillInspectors x = new MillInspectors();
        x.hand(0, 0);
        Due.is("born of no hand", x.born(1, 0), MillInspectors.BAD);
        Due.is("born(0, -1)", x.born(0, -1), MillInspectors.BAD);
        Due.is("born(0, 3)", x.born(0, 3), MillInspectors.BAD);
    }

    private static void ages() {
        MillInspectors x = new MillInspectors();
        x.hand(0, 0);
        Due.is("age without a paper, from", x.age(0, 359, 0), 0);
        Due.is("age without a paper, to", x.age(0, 0, 1), 29);
        Due.is("age without a paper, to, a day on", x.age(0, 1, 1), 30);
        x.paper(0, 0, 4500, 0);
        Due.is("age a day ahead of the birthday", x.age(0, 179, 1), 12);
        Due.is("age on the birthday", x.age(0, 180, 0), 13);
        Due.is("age(1, ..)", x.age(1, 0, 0), MillInspectors.BAD);
        Due.is("age on day -1", x.age(0, -1, 0), MillInspectors.BAD);
        Due.is("age on day 360", x.age(0, 360, 0), MillInspectors.BAD);
        Due.is("age, what 2", x.age(0, 0, 2), MillInspectors.BAD);
        Due.is("age, what -1", x.age(0, 0, -1), MillInspectors.BAD);
        x.paper(0, 0, 4501, 0);
        Due.is("age of contradicting papers, from", x.age(0, 0, 0), 0);
        Due.is("age of contradicting papers, to", x.age(0, 0, 1), 29);
    }
}
