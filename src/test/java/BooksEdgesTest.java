/** Edges of promises 16 to 22, and of the Terms 4: lines, clocks, work, breaches, clashes, doubt. */
public final class BooksEdgesTest {
    private static final int BAD = MillInspectors.BAD, STATE = MillInspectors.STATE, FULL = MillInspectors.FULL;
    private static final int NONE = MillInspectors.NONE, BAD_TRUTH = -999;
    private static final int HOURS = 0, SPAN = 1, SCHOOL = 2, REST = 3, PAPER = 4, BAR = 5;

    public static void main(String[] args) {
        lineBounds();
        linesAreFull();
        checkBounds();
        checksAreFull();
        truthBounds();
        oneCheck();
        twoChecks();
        twoChecksAtOneMinute();
        truthBeyondTheDay();
        workBounds();
        workIsNeverBelowNothing();
        linesOfOneHandAndDay();
        breachBounds();
        noBreachWithoutALine();
        anothersLinesAreForgotten();
        hours();
        hoursByTheClock();
        spans();
        spansByTheClock();
        spansWithoutRules();
        school();
        rest();
        papers();
        bars();
        millsWithLinesAlone();
        clashBounds();
        clashes();
        clashesByTheClock();
        doubtedBounds();
        twelveAndThirteen();
        leastSets();
        Due.end("BooksEdgesTest");
    }

    private static MillInspectors made(String act) {
        MillInspectors x = new MillInspectors();
        x.mill(1, 4, 2);
        x.mill(2, 5, 3);
        x.hand(0, 0);
        x.hand(0, 0);
        Due.holds("read: " + act, Due.act(x, act) >= 0);
        return x;
    }

    /** Terms 4: "a HAND, a DAY, where (a MILL, or SCHOOL: NONE), IN, OUT (IN below OUT) by the clock there". */
    private static void lineBounds() {
        Edge.of("line, a HAND", Busy::made, (x, n) -> x.line(n, 0, 0, 1, 2)).takes(0, 7).takes(2, 7).refusesBeyond(BAD);
        Edge.of("line, a DAY", Busy::made, (x, n) -> x.line(0, n, 0, 1, 2)).takes(0, 7).takes(359, 7).refusesBeyond(BAD);
        Edge.of("line, a MILL", Busy::made, (x, n) -> x.line(0, 0, n, 1, 2)).takes(0, 7).takes(1, 7).refusesBeyond(BAD);
        Edge.of("line, SCHOOL", Busy::made, (x, n) -> x.line(0, 0, n, 1, 2)).takes(NONE, 7).refuses(NONE - 1, BAD)
            .refuses(NONE + 1, BAD);
        Edge.of("line, IN", Busy::made, (x, n) -> x.line(0, 0, 0, n, 1440)).takes(0, 7).takes(1439, 7).refusesBeyond(BAD);
        Edge.of("line, OUT", Busy::made, (x, n) -> x.line(0, 0, 0, 0, n)).takes(1, 7).takes(1440, 7).refusesBeyond(BAD);
        Edge.of("line, IN at SCHOOL", Busy::made, (x, n) -> x.line(0, 0, NONE, n, 1440)).takes(0, 7).takes(1439, 7)
            .refusesBeyond(BAD);
        Edge.of("line, OUT at SCHOOL", Busy::made, (x, n) -> x.line(0, 0, NONE, 0, n)).takes(1, 7).takes(1440, 7)
            .refusesBeyond(BAD);
        Edge.of("line, IN below OUT", Busy::made, (x, n) -> x.line(0, 0, 0, n, 700)).takes(0, 7).takes(699, 7)
            .refuses(700, BAD).refusesBeyond(BAD);
        Edge.of("line, OUT above IN", Busy::made, (x, n) -> x.line(0, 0, 0, 700, n)).takes(701, 7).takes(1440, 7)
            .refuses(0, BAD).refusesBeyond(BAD);
    }

    private static MillInspectors sixtyLines() {
        MillInspectors x = Busy.made();
        for (int k = 6; k < 60; k++) {
            x.line(k % 3, k / 20, k % 4 == 0 ? NONE : k % 2, 20 * k, 20 * k + 15);
        }
        return x;
    }

    /** Terms 4: "LINES (60 at most)". */
    private static void linesAreFull() {
        MillInspectors x = Busy.made();
        for (int k = 7; k <= 60; k++) {
            Due.is("line " + k, x.line(0, 5, NONE, 0, 1), k);
        }
        Edge.refused("a 61st line", BooksEdgesTest::sixtyLines, FULL, y -> y.line(0, 0, 0, 0, 1));
        Edge.refused("a 61st line at SCHOOL", BooksEdgesTest::sixtyLines, FULL, y -> y.line(0, 0, NONE, 0, 1));
        Edge.refused("a wrong 61st: BAD goes ahead of FULL", BooksEdgesTest::sixtyLines, BAD, y -> y.line(0, 0, 0, 1, 1));
        Due.is("the 60th counts", x.work(0, 5, 2), 54);
        MillInspectors y = made("");
        for (int k = 0; k < 60; k++) {
            y.line(1, 359, 1, k, 1440);
        }
        Due.is("all sixty of one hand on one day, work", y.work(1, 359, 0), 60 * 1440 - 59 * 30);
        Due.is("all sixty of one hand on one day, clashes", y.clash(1, 359), 1770);
        for (int of = 0; of < 6; of++) {
            Due.is("all sixty of one hand on one day, breach " + of, y.breach(1, 359, of), of == HOURS ? 2 : 0);
        }
    }

    /** Terms 4: "its clock at a MINUTE was wrong by e (-90 .. 90 ..)". */
    private static void checkBounds() {
        Edge.of("check, a MILL", Busy::made, (x, n) -> x.check(n, 0, 0)).takes(0, 3).takes(1, 2).refuses(NONE, BAD)
            .refusesBeyond(BAD);
        Edge.of("check, a MINUTE", Busy::made, (x, n) -> x.check(0, n, 0)).takes(0, 3).takes(1439, 3).refusesBeyond(BAD);
        Edge.of("check, e", Busy::made, (x, n) -> x.check(0, 0, n)).takes(-90, 3).takes(0, 3).takes(90, 3)
            .refusesBeyond(BAD);
    }

    private static MillInspectors fourChecks() {
        MillInspectors x = Busy.made();
        x.check(0, 300, 11);
        x.check(0, 0, 0);
        return x;
    }

    /** Terms 4: "A MILL's CHECKS (4 at most)". */
    private static void checksAreFull() {
        MillInspectors x = made("");
        for (int k = 1; k <= 4; k++) {
            Due.is("check " + k, x.check(0, 5, k), k);
        }
        for (int k = 1; k <= 4; k++) {
            Due.is("the other mill's check " + k, x.check(1, k, k), k);
        }
        Due.is("the fourth counts", x.truth(0, 5, 0), 9);
        Edge.refused("a fifth check", BooksEdgesTest::fourChecks, FULL, y -> y.check(0, 700, 90));
        Edge.refused("a fifth check at a minute that has one", BooksEdgesTest::fourChecks, FULL, y -> y.check(0, 300, 90));
        Edge.refused("a wrong fifth: BAD goes ahead of FULL", BooksEdgesTest::fourChecks, BAD, y -> y.check(0, 0, 91));
        MillInspectors six = new MillInspectors();
        for (int m = 0; m < 6; m++) {
            six.mill(0, 1, 1);
        }
        for (int m = 5; m >= 0; m--) {
            for (int k = 1; k <= 4; k++) {
                Due.is("check " + k + " of mill " + m, six.check(m, 100 * k, 10 * m + k), k);
            }
            Due.is("a fifth check of mill " + m, six.check(m, 0, 0), FULL);
        }
        for (int m = 0; m < 6; m++) {
            for (int k = 1; k <= 4; k++) {
                Due.is("the clock of mill " + m, six.truth(m, 100 * k, 0), 100 * k + 10 * m + k);
            }
        }
    }

    /** Promise 18: "A MILL's clock's MINUTE (0 .. 1440) .. -999: BAD." */
    private static void truthBounds() {
        Edge.of("truth, a MILL", Busy::made, (x, n) -> x.truth(n, 700, 0)).takes(0, 680).takes(1, 705)
            .refuses(NONE, BAD_TRUTH).refusesBeyond(BAD_TRUTH);
        Edge.of("truth, a MINUTE", Busy::made, (x, n) -> x.truth(0, n, 0)).takes(0, 0).takes(1440, 1410)
            .refusesBeyond(BAD_TRUTH);
        Edge.of("truth, what 0 .. 1", Busy::made, (x, n) -> x.truth(0, 700, n)).takes(0, 680).takes(1, 710)
            .refusesBeyond(BAD_TRUTH);
        MillInspectors none = made("");
        for (int minute : new int[] {0, 1, 720, 1439, 1440}) {
            Due.is("no check, least", none.truth(0, minute, 0), minute);
            Due.is("no check, greatest", none.truth(0, minute, 1), minute);
        }
    }

    private static void truth(MillInspectors x, int minute, int least, int greatest) {
        Due.is("truth of " + minute + ", least", x.truth(0, minute, 0), least);
        Due.is("truth of " + minute + ", greatest", x.truth(0, minute, 1), greatest);
    }

    /** Terms 4: "of the one there is, 10 less and 10 more"; at its own MINUTE it is both. */
    private static void oneCheck() {
        MillInspectors x = made("");
        x.check(0, 300, 7);
        truth(x, 0, -3, 17);
        truth(x, 299, 296, 316);
        truth(x, 300, 307, 307);
        truth(x, 301, 298, 318);
        truth(x, 1440, 1437, 1457);
        MillInspectors first = made("");
        first.check(0, 0, 7);
        truth(first, 0, 7, 7);
        truth(first, 1, -2, 18);
        MillInspectors last = made("");
        last.check(0, 1439, 7);
        truth(last, 1438, 1435, 1455);
        truth(last, 1439, 1446, 1446);
        truth(last, 1440, 1437, 1457);
    }

    /** Terms 4: "of the CHECK latest at or ahead of it, of the first at or behind it (if there are both)". */
    private static void twoChecks() {
        for (int turn = 0; turn < 2; turn++) {
            MillInspectors x = made("");
            x.check(0, turn == 0 ? 300 : 400, turn == 0 ? -5 : 8);
            x.check(0, turn == 0 ? 400 : 300, turn == 0 ? 8 : -5);
            truth(x, 299, 284, 304);
            truth(x, 300, 295, 295);
            truth(x, 301, 296, 309);
            truth(x, 399, 394, 407);
            truth(x, 400, 408, 408);
            truth(x, 401, 399, 419);
        }
        MillInspectors near = made("");
        near.check(0, 100, 1);
        near.check(0, 400, 4);
        near.check(0, 200, 2);
        near.check(0, 300, 3);
        truth(near, 99, 90, 110);
        truth(near, 101, 102, 103);
        truth(near, 199, 200, 201);
        truth(near, 201, 203, 204);
        truth(near, 299, 301, 302);
        truth(near, 301, 304, 305);
        truth(near, 401, 395, 415);
    }

    /** Terms 4: "Of two CHECKS at one MINUTE the one told later counts." */
    private static void twoChecksAtOneMinute() {
        MillInspectors x = made("");
        x.check(0, 300, 50);
        x.check(0, 300, -5);
        truth(x, 299, 284, 304);
        truth(x, 300, 295, 295);
        truth(x, 301, 286, 306);
        x.check(0, 400, 60);
        x.check(0, 400, 8);
        truth(x, 301, 296, 309);
        truth(x, 399, 394, 407);
        truth(x, 400, 408, 408);
        truth(x, 401, 399, 419);
    }

    /** A truth goes ahead of 0 or behind 1440 as it comes: nothing wraps around. */
    private static void truthBeyondTheDay() {
        MillInspectors x = made("");
        x.check(0, 700, -90);
        truth(x, 0, -100, -80);
        truth(x, 99, -1, 19);
        MillInspectors y = made("");
        y.check(0, 700, 90);
        truth(y, 1440, 1520, 1540);
        y.line(0, 0, 0, 0, 1440);
        Due.is("a whole day by a wrong clock, surely", y.work(0, 0, 0), 1420);
        Due.is("a whole day by a wrong clock, at most", y.work(0, 0, 1), 1460);
        Due.is("ahead of midnight and behind it", x.line(0, 0, 0, 0, 1440), 1);
        Due.is("by a clock that runs ahead, surely", x.work(0, 0, 0), 1420);
    }

    private static void workBounds() {
        Edge.of("work, a HAND", Busy::made, (x, n) -> x.work(n, 0, 2)).takes(0, 50).takes(2, 0).refusesBeyond(BAD);
        Edge.of("work, a DAY", Busy::made, (x, n) -> x.work(1, n, 2)).takes(0, 0).takes(1, 100).takes(359, 0)
            .refusesBeyond(BAD);
        Edge.of("work, what 0 .. 2", Busy::made, (x, n) -> x.work(0, 0, n)).takes(0, 1040).takes(1, 1120).takes(2, 50)
            .refusesBeyond(BAD);
    }

    /** Terms 4: "(0 at least)", of each LINE. */
    private static void workIsNeverBelowNothing() {
        MillInspectors x = made("");
        x.check(0, 700, 0);
        x.line(0, 0, 0, 100, 119);
        Due.is("surely one below nothing is nothing", x.work(0, 0, 0), 0);
        Due.is("at most 39", x.work(0, 0, 1), 39);
        x.line(0, 1, 0, 100, 120);
        Due.is("surely just nothing", x.work(0, 1, 0), 0);
        x.line(0, 2, 0, 100, 121);
        Due.is("surely a minute", x.work(0, 2, 0), 1);
        x.line(0, 0, 0, 100, 121);
        Due.is("a line below nothing takes nothing from another", x.work(0, 0, 0), 1);
        MillInspectors y = made("");
        y.check(0, 100, 90);
        y.check(0, 200, -90);
        y.line(0, 0, 0, 100, 200);
        Due.is("at most 80 below nothing is nothing", y.work(0, 0, 1), 0);
        y.line(0, 0, 1, 0, 1);
        Due.is("and takes nothing from another", y.work(0, 0, 1), 1);
        MillInspectors z = made("");
        z.check(0, 100, 90);
        z.check(0, 280, -90);
        z.line(0, 0, 0, 100, 280);
        z.line(0, 1, 0, 100, 281);
        Due.is("at most just nothing", z.work(0, 0, 1), 0);
        Due.is("at most 11", z.work(0, 1, 1), 11);
    }

    private static void linesOfOneHandAndDay() {
        MillInspectors x = made("");
        x.line(0, 0, 0, 0, 10);
        x.line(1, 0, 0, 0, 100);
        x.line(0, 1, 0, 0, 1000);
        x.line(0, 0, NONE, 0, 7);
        x.line(1, 1, NONE, 0, 70);
        int[][] due = {{0, 0, 10, 7}, {1, 0, 100, 0}, {0, 1, 1000, 0}, {1, 1, 0, 70}, {0, 2, 0, 0}};
        for (int[] d : due) {
            Due.is("work of hand " + d[0] + " on day " + d[1], x.work(d[0], d[1], 0), d[2]);
            Due.is("at most of hand " + d[0] + " on day " + d[1], x.work(d[0], d[1], 1), d[2]);
            Due.is("schooled of hand " + d[0] + " on day " + d[1], x.work(d[0], d[1], 2), d[3]);
        }
        x.check(0, 700, 50);
        x.check(1, 700, 50);
        Due.is("SCHOOL's clock is right", x.work(0, 0, 2), 7);
    }

    private static void breachBounds() {
        Edge.of("breach, a HAND", Busy::made, (x, n) -> x.breach(n, 0, SCHOOL)).takes(0, 2).takes(2, 2).refusesBeyond(BAD);
        Edge.of("breach, a DAY", Busy::made, (x, n) -> x.breach(0, n, HOURS)).takes(0, 2).takes(359, 0).refusesBeyond(BAD);
        Edge.of("breach, of 0 .. 5", Busy::made, (x, n) -> x.breach(0, 0, n)).takes(0, 2).takes(1, 2).takes(2, 2)
            .takes(3, 1).takes(4, 0).takes(5, 1).refusesBeyond(BAD);
    }

    /** Terms 4: "over MILLS where it has LINES that DAY (none without such)". */
    private static void noBreachWithoutALine() {
        MillInspectors x = made("rule 1 on 0-359:hours 0,school 600,paper,bar;rule 2 on 0-359:rest 1,from 700 to 701;");
        x.line(0, 0, NONE, 0, 1);
        x.line(1, 0, 0, 0, 10);
        x.line(0, 1, 0, 0, 10);
        for (int of = 0; of < 6; of++) {
            Due.is("none without a line at a mill, of " + of, x.breach(0, 0, of), 0);
            Due.is("none without any line, of " + of, x.breach(0, 2, of), 0);
            Due.is("each with one, of " + of, x.breach(1, 0, of), 2);
        }
    }

    /** Whatever was asked of another hand ahead of it, a hand's answers are its own. */
    private static void anothersLinesAreForgotten() {
        MillInspectors x = made("rule 1 on 0-0:hours 100,from 300 to 1200,rest 50,school 10;");
        x.line(1, 0, 0, 0, 1440);
        x.line(1, 0, 0, 0, 1440);
        x.line(0, 0, 0, 400, 450);
        x.line(1, 0, 1, 0, 1440);
        x.line(0, 0, NONE, 500, 510);
        for (int of = 0; of < 4; of++) {
            Due.is("another's breach of " + of, x.breach(1, 0, of), 2);
            Due.is("its own breach of " + of, x.breach(0, 0, of), 0);
        }
        Due.is("another's work", x.work(1, 0, 0), 4320);
        Due.is("its own work", x.work(0, 0, 0), 50);
        Due.is("another's clashes", x.clash(1, 0), 3);
        Due.is("its own clashes", x.clash(0, 0), 0);
    }

    private static void breach(String act, int of, int due, int... lines) {
        MillInspectors x = made(act);
        for (int k = 0; k + 2 < lines.length; k += 3) {
            x.line(0, 0, lines[k], lines[k + 1], lines[k + 2]);
        }
        Due.is("breach " + of + " by " + act, x.breach(0, 0, of), due);
    }

    /** Terms 4: HOURS: "WORK SURELY, AT MOST is above it". */
    private static void hours() {
        breach("", HOURS, 0, 0, 0, 900);
        breach("", HOURS, 2, 0, 0, 901);
        breach("", HOURS, 0, 0, 0, 450, 1, 450, 900, NONE, 900, 1440);
        breach("", HOURS, 2, 0, 0, 450, 1, 450, 901);
        breach("rule 1 on 0-0:hours 0;", HOURS, 2, 0, 0, 1);
        breach("rule 1 on 0-0:hours 100;", HOURS, 0, 0, 0, 100);
        breach("rule 1 on 0-0:hours 100;", HOURS, 2, 0, 0, 101);
        breach("rule 1 on 1-1:hours 100;", HOURS, 0, 0, 0, 101);
        breach("rule 1 on 0-0:if age<9 then hours 100;", HOURS, 0, 0, 0, 100);
        breach("rule 1 on 0-0:if age<9 then hours 100;", HOURS, 1, 0, 0, 101);
        breach("rule 1 on 0-0:if age<9 then hours 100;rule 2 on 0-0:hours 200;", HOURS, 1, 0, 0, 200);
        breach("rule 1 on 0-0:if age<9 then hours 100;rule 2 on 0-0:hours 200;", HOURS, 2, 0, 0, 201);
    }

    private static void byTheClock(String act, int of, int due, int in, int out) {
        MillInspectors x = made(act);
        x.check(0, 1439, 0);
        x.line(0, 0, 0, in, out);
        Due.is("breach " + of + " by " + act + " of " + in + " .. " + out, x.breach(0, 0, of), due);
    }

    /** A check at 1439 alone: each minute is wrong by 10 at most, a line by 20. */
    private static void hoursByTheClock() {
        byTheClock("rule 1 on 0-0:hours 100;", HOURS, 0, 0, 80);
        byTheClock("rule 1 on 0-0:hours 100;", HOURS, 1, 0, 81);
        byTheClock("rule 1 on 0-0:hours 100;", HOURS, 1, 0, 120);
        byTheClock("rule 1 on 0-0:hours 100;", HOURS, 2, 0, 121);
    }

    /** Terms 4: SPAN: "IN's greatest below FROM or OUT's least above TO is SURE". */
    private static void spans() {
        String act = "rule 1 on 0-0:if mill=0 then from 300 to 1200;";
        breach(act, SPAN, 0, 0, 300, 1200);
        breach(act, SPAN, 2, 0, 299, 1200);
        breach(act, SPAN, 2, 0, 300, 1201);
        breach(act, SPAN, 2, 0, 0, 1);
        breach(act, SPAN, 2, 0, 1439, 1440);
        breach(act, SPAN, 0, 0, 300, 1200, 1, 0, 1440, NONE, 0, 1440);
        String maybe = "rule 1 on 0-0:if age<9 then from 300 to 1200;";
        breach(maybe, SPAN, 0, 0, 300, 1200);
        breach(maybe, SPAN, 1, 0, 299, 1200);
        breach(maybe, SPAN, 1, 0, 300, 1201);
        breach(maybe + "rule 2 on 0-0:from 100 to 1300;", SPAN, 1, 0, 100, 1300);
        breach(maybe + "rule 2 on 0-0:from 100 to 1300;", SPAN, 2, 0, 99, 1300);
        breach(maybe + "rule 2 on 0-0:from 100 to 1300;", SPAN, 2, 0, 100, 1301);
    }

    private static void spansByTheClock() {
        String act = "rule 1 on 0-0:from 300 to 1200;";
        byTheClock(act, SPAN, 0, 310, 1190);
        byTheClock(act, SPAN, 1, 309, 1190);
        byTheClock(act, SPAN, 1, 310, 1191);
        byTheClock(act, SPAN, 1, 290, 1210);
        byTheClock(act, SPAN, 2, 289, 1190);
        byTheClock(act, SPAN, 2, 310, 1211);
    }

    /** FROM is 0 and TO is 1440 without rules: a truth beyond them is a breach. */
    private static void spansWithoutRules() {
        breach("", SPAN, 0, 0, 0, 1440);
        byTheClock("", SPAN, 0, 10, 1430);
        byTheClock("", SPAN, 1, 9, 1430);
        byTheClock("", SPAN, 1, 10, 1431);
        byTheClock("", SPAN, 1, 0, 1430);
        MillInspectors x = made("");
        x.check(0, 1439, -11);
        x.line(0, 0, 0, 0, 700);
        Due.is("surely ahead of 0", x.breach(0, 0, SPAN), 2);
        MillInspectors y = made("");
        y.check(0, 0, 11);
        y.line(0, 0, 0, 700, 1440);
        Due.is("surely behind 1440", y.breach(0, 0, SPAN), 2);
    }

    /** Terms 4: SCHOOL: "SCHOOLED is below it." */
    private static void school() {
        breach("rule 1 on 0-0:school 100;", SCHOOL, 2, 0, 500, 501);
        breach("rule 1 on 0-0:school 100;", SCHOOL, 2, 0, 500, 501, NONE, 0, 99);
        breach("rule 1 on 0-0:school 100;", SCHOOL, 0, 0, 500, 501, NONE, 0, 100);
        breach("rule 1 on 0-0:school 100;", SCHOOL, 0, 0, 500, 501, NONE, 0, 50, NONE, 50, 100);
        breach("rule 1 on 0-0:school 0;", SCHOOL, 0, 0, 500, 501);
        breach("rule 1 on 0-0:if age<9 then school 100;", SCHOOL, 1, 0, 500, 501, NONE, 0, 99);
        breach("rule 1 on 0-0:if age<9 then school 100;", SCHOOL, 0, 0, 500, 501, NONE, 0, 100);
        breach("rule 1 on 0-0:if mill=1 then school 100;", SCHOOL, 0, 0, 500, 501);
        breach("", SCHOOL, 0, 0, 500, 501);
    }

    /** Terms 4: REST: "of a LINE there SURELY, AT MOST likewise is above it." */
    private static void rest() {
        String act = "rule 1 on 0-0:if mill=0 then rest 100;";
        breach(act, REST, 0, 0, 0, 100);
        breach(act, REST, 2, 0, 0, 101);
        breach(act, REST, 0, 0, 0, 100, 0, 100, 200);
        breach(act, REST, 0, 0, 0, 100, 1, 0, 1440, NONE, 0, 1440);
        breach("rule 1 on 0-0:rest 1;", REST, 0, 0, 0, 1);
        breach("rule 1 on 0-0:rest 1;", REST, 2, 0, 0, 2);
        breach("rule 1 on 0-0:rest 1440;", REST, 0, 0, 0, 1440);
        breach("", REST, 0, 0, 0, 1440);
        breach("rule 1 on 0-0:if age<9 then rest 100;", REST, 0, 0, 0, 100);
        breach("rule 1 on 0-0:if age<9 then rest 100;", REST, 1, 0, 0, 101);
        byTheClock("rule 1 on 0-0:rest 100;", REST, 0, 0, 80);
        byTheClock("rule 1 on 0-0:rest 100;", REST, 1, 0, 81);
        byTheClock("rule 1 on 0-0:rest 100;", REST, 1, 0, 120);
        byTheClock("rule 1 on 0-0:rest 100;", REST, 2, 0, 121);
        byTheClock("", REST, 0, 10, 1430);
        byTheClock("", REST, 1, 5, 1426);
    }

    /** Terms 4: PAPER: "it has none." */
    private static void papers() {
        breach("rule 1 on 0-0:paper;", PAPER, 2, 0, 0, 1);
        breach("rule 1 on 0-0:if age<9 then paper;", PAPER, 1, 0, 0, 1);
        breach("rule 1 on 0-0:if mill=1 then paper;", PAPER, 0, 0, 0, 1);
        breach("rule 1 on 0-0:bar;", PAPER, 0, 0, 0, 1);
        MillInspectors x = made("rule 1 on 0-0:paper;");
        x.line(0, 0, 0, 0, 1);
        x.paper(0, 2, 31, 0);
        Due.is("a refused paper is none", x.breach(0, 0, PAPER), 2);
        x.paper(0, 2, 0, 359);
        Due.is("one is enough", x.breach(0, 0, PAPER), 0);
        x.paper(0, 0, 9, 0);
        x.paper(0, 0, 8, 0);
        Due.is("though they contradict", x.breach(0, 0, PAPER), 0);
    }

    /** Terms 4: BAR: "it has a LINE there." */
    private static void bars() {
        breach("rule 1 on 0-0:bar;", BAR, 2, 0, 0, 1);
        breach("rule 1 on 0-0:bar;", BAR, 0, NONE, 0, 1);
        breach("rule 1 on 0-0:if age<9 then bar;", BAR, 1, 0, 0, 1);
        breach("rule 1 on 0-0:if mill=1 then bar;", BAR, 0, 0, 0, 1);
        breach("rule 1 on 0-0:if mill=1 then bar;", BAR, 2, 1, 0, 1);
        breach("rule 1 on 0-0:paper;", BAR, 0, 0, 0, 1);
        breach("", BAR, 0, 0, 0, 1);
        byTheClock("rule 1 on 0-0:bar;", BAR, 2, 0, 1);
    }

    /** The worst of all MILLS where it has LINES, the last of six too. */
    private static void millsWithLinesAlone() {
        MillInspectors x = made("rule 1 on 0-0:if mill=5 then bar,hours 10;rule 2 on 0-0:if mill=3&age<9 then bar;");
        for (int m = 2; m < 6; m++) {
            x.mill(0, 1, 1);
        }
        x.line(0, 0, 0, 0, 11);
        Due.is("no mill with a bar", x.breach(0, 0, BAR), 0);
        x.line(0, 0, 3, 0, 1);
        Due.is("a mill with a bar maybe", x.breach(0, 0, BAR), 1);
        x.line(1, 0, 5, 0, 1);
        Due.is("another hand's line is not its own", x.breach(0, 0, BAR), 1);
        Due.is("hours of a mill without a line", x.breach(0, 0, HOURS), 0);
        x.line(0, 0, 5, 0, 1);
        Due.is("a mill with a bar surely", x.breach(0, 0, BAR), 2);
        Due.is("hours of all mills by that mill's rule", x.breach(0, 0, HOURS), 2);
    }

    private static void clashBounds() {
        Edge.of("clash, a HAND", Busy::made, (x, n) -> x.clash(n, 0)).takes(0, 1).takes(2, 0).refusesBeyond(BAD);
        Edge.of("clash, a DAY", Busy::made, (x, n) -> x.clash(0, n)).takes(0, 1).takes(359, 0).refusesBeyond(BAD);
    }

    private static MillInspectors lines(int... inOut) {
        MillInspectors x = made("");
        for (int k = 0; k + 1 < inOut.length; k += 2) {
            x.line(0, 0, k % 4 == 0 ? 0 : NONE, inOut[k], inOut[k + 1]);
        }
        return x;
    }

    /** Terms 4: "the greatest of both INS is below the least of both OUTS". */
    private static void clashes() {
        Due.is("no line", lines().clash(0, 0), 0);
        Due.is("one line", lines(0, 1440).clash(0, 0), 0);
        Due.is("two that touch", lines(0, 100, 100, 200).clash(0, 0), 0);
        Due.is("two that touch, the later first", lines(100, 200, 0, 100).clash(0, 0), 0);
        Due.is("two with a minute in common", lines(0, 101, 100, 200).clash(0, 0), 1);
        Due.is("two with a minute in common, the later first", lines(100, 200, 0, 101).clash(0, 0), 1);
        Due.is("one within the other", lines(0, 1440, 700, 701).clash(0, 0), 1);
        Due.is("the same twice", lines(5, 6, 5, 6).clash(0, 0), 1);
        Due.is("the same three times", lines(5, 6, 5, 6, 5, 6).clash(0, 0), 3);
        MillInspectors x = lines(0, 100);
        x.line(1, 0, 0, 0, 100);
        x.line(0, 1, 0, 0, 100);
        Due.is("not another hand's nor another day's", x.clash(0, 0), 0);
    }

    /** Each one's greatest IN, each one's least OUT. */
    private static void clashesByTheClock() {
        int[][] due = {{110, 0}, {111, 1}};
        for (int[] d : due) {
            MillInspectors x = made("");
            x.check(0, 1439, 0);
            x.line(0, 0, 0, 0, d[0]);
            x.line(0, 0, NONE, 100, 200);
            Due.is("out at " + d[0] + " by a clock wrong by 10", x.clash(0, 0), d[1]);
            MillInspectors y = made("");
            y.check(0, 1439, 0);
            y.line(0, 0, 0, 200 - d[0], 800);
            y.line(0, 0, NONE, 0, 100);
            Due.is("in at " + (200 - d[0]) + " by a clock wrong by 10", y.clash(0, 0), d[1]);
            MillInspectors z = made("");
            z.check(0, 1439, 0);
            z.line(0, 0, 0, 90, d[0]);
            z.line(0, 0, 0, 90, d[0]);
            Due.is("at neither surely, or for a minute", z.clash(0, 0), d[1]);
        }
    }

    private static void doubtedBounds() {
        Edge.of("doubted, a HAND", Busy::made, (x, n) -> x.doubted(n, 0, 0)).takes(0, 1).takes(2, 0).refusesBeyond(BAD);
        Edge.of("doubted, a DAY", Busy::made, (x, n) -> x.doubted(0, n, 0)).takes(0, 1).takes(359, 0).refusesBeyond(BAD);
        Edge.of("doubted, what 0 .. 1", Busy::made, (x, n) -> x.doubted(0, 0, n)).takes(0, 1).takes(1, 1)
            .refusesBeyond(BAD);
    }

    private static MillInspectors manyLines(int n, boolean alike) {
        MillInspectors x = Busy.made();
        for (int k = 0; k < n; k++) {
            x.line(2, 3, k % 3 == 0 ? NONE : 1, alike ? 100 : 50 * k, alike ? 400 : 50 * k + 25);
        }
        return x;
    }

    /** Terms 4: "STATE: more than 12." */
    private static void twelveAndThirteen() {
        Due.is("twelve alike: all but one", manyLines(12, true).doubted(2, 3, 0), 11);
        Due.is("twelve alike: the first eleven", manyLines(12, true).doubted(2, 3, 1), 2047);
        Due.is("twelve apart", manyLines(12, false).doubted(2, 3, 0), 0);
        Due.is("twelve apart: the empty set", manyLines(12, false).doubted(2, 3, 1), 0);
        for (boolean alike : new boolean[] {true, false}) {
            for (int what = 0; what < 2; what++) {
                int its = what;
                Edge.refused("thirteen", () -> manyLines(13, alike), STATE, x -> x.doubted(2, 3, its));
                Due.is("sixty", manyLines(54, alike).doubted(2, 3, what), STATE);
            }
            Edge.refused("thirteen, what 2: BAD goes ahead of STATE", () -> manyLines(13, alike), BAD,
                x -> x.doubted(2, 3, 2));
        }
        MillInspectors x = manyLines(13, true);
        Due.is("another day of that hand", x.doubted(2, 0, 0), 0);
        Due.is("another hand on that day", x.doubted(1, 3, 0), 0);
        Due.is("thirteen can clash", x.clash(2, 3), 78);
        MillInspectors y = made("");
        for (int k = 0; k < 12; k++) {
            y.line(0, 0, NONE, k, k + 1);
        }
        Due.is("twelve at SCHOOL", y.doubted(0, 0, 0), 0);
        y.line(0, 0, NONE, 20, 21);
        Due.is("thirteen at SCHOOL", y.doubted(0, 0, 0), STATE);
    }

    private static void doubted(String what, int set, int... inOut) {
        MillInspectors x = lines(inOut);
        Due.is(what + ": the set", x.doubted(0, 0, 1), set);
        Due.is(what + ": how many", x.doubted(0, 0, 0), Integer.bitCount(set));
    }

    /** Terms 4: "the fewest of its LINES .., the least set of them by their places among these LINES". */
    private static void leastSets() {
        doubted("no line", 0);
        doubted("one line", 0, 0, 1440);
        doubted("two that touch", 0, 0, 5, 5, 9);
        doubted("two", 1, 0, 6, 5, 9);
        doubted("three alike", 3, 0, 5, 0, 5, 0, 5);
        doubted("the second of three", 2, 0, 10, 5, 25, 20, 30);
        doubted("the first of three", 1, 5, 25, 0, 10, 20, 30);
        doubted("the last of three", 4, 0, 10, 20, 30, 5, 25);
        doubted("two pairs", 5, 0, 5, 0, 5, 10, 15, 10, 15);
        doubted("two pairs, crossed", 3, 0, 5, 10, 15, 0, 5, 10, 15);
        doubted("a chain of 1, 3, 2, 0: the set 1, 2 is less than 0, 3", 6, 60, 90, 0, 30, 45, 70, 20, 50);
        MillInspectors x = made("");
        x.line(1, 0, 0, 0, 9);
        x.line(0, 1, 0, 0, 9);
        x.line(0, 0, 0, 50, 59);
        x.line(1, 0, 0, 0, 9);
        x.line(0, 0, 0, 0, 9);
        x.line(0, 0, 0, 0, 9);
        Due.is("places among these lines alone", x.doubted(0, 0, 1), 2);
        Due.is("another hand's", x.doubted(1, 0, 1), 1);
        Due.is("another day's", x.doubted(0, 1, 1), 0);
        Due.is("the first one's again", x.doubted(0, 0, 1), 2);
        x.check(0, 700, 0);
        Due.is("a clock that is wrong, and no clash is left", x.doubted(0, 0, 1), 0);
    }
}
