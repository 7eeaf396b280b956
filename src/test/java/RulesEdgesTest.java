/** Edges of promises 11 to 15, and of the Terms 3 behind FAULT: how rules bind, duties, why, quarrel. */
public final class RulesEdgesTest {
    private static final int BAD = MillInspectors.BAD, NONE = MillInspectors.NONE;

    public static void main(String[] args) {
        bindsBounds();
        dutyAndWhyBounds();
        quarrelBounds();
        ruleBounds();
        withoutRules();
        firstAndLastDay();
        strikeDay();
        ageSpans();
        ageTurnsOnADay();
        kindsAndMillsBeyond();
        paperOfAHand();
        threeValues();
        howTightlySignsBind();
        deepestConds();
        hoursAndCustom();
        leastAndGreatest();
        surelyOrMaybe();
        whyNotAndWhyJustThat();
        quarrelEdges();
        quarrelOrder();
        numbersOfRule();
        Due.end("RulesEdgesTest");
    }

    /** Mills 0 (trade 1) and 1 (trade 2); hands 0 (a hand), 1 (a child of 8 to 16 years on day 0). */
    private static MillInspectors made(String act) {
        MillInspectors x = new MillInspectors();
        x.mill(1, 4, 2);
        x.mill(2, 5, 3);
        x.hand(0, 0);
        x.hand(1, 0);
        x.paper(1, 1, 24, 0);
        Due.holds("read: " + act, Due.act(x, act) >= 0);
        return x;
    }

    private static MillInspectors sixteen() {
        StringBuilder act = new StringBuilder();
        for (int k = 16; k >= 1; k--) {
            act.append("rule ").append(k).append(" on 0-").append(k).append(":hours ").append(10 * k).append(';');
        }
        return made(act.toString());
    }

    private static void bindsBounds() {
        Edge.of("binds, the i-th", Busy::made, (x, n) -> x.binds(n, 0, 0, 0)).takes(0, 1).takes(1, 2).takes(2, 0)
            .refusesBeyond(BAD);
        Edge.of("binds, the i-th of 16", RulesEdgesTest::sixteen, (x, n) -> x.binds(n, 0, 0, 1)).takes(0, 2).takes(15, 2)
            .refusesBeyond(BAD);
        Edge.of("binds, a HAND", Busy::made, (x, n) -> x.binds(0, n, 0, 0)).takes(0, 1).takes(2, 0).refusesBeyond(BAD);
        Edge.of("binds, a MILL", Busy::made, (x, n) -> x.binds(2, 0, n, 0)).takes(0, 0).takes(1, 2).refuses(NONE, BAD)
            .refusesBeyond(BAD);
        Edge.of("binds, a DAY", Busy::made, (x, n) -> x.binds(1, 0, 0, n)).takes(0, 2).takes(359, 0).refusesBeyond(BAD);
    }

    private interface Asked {
        int of(MillInspectors x, int hand, int mill, int day, int what, int sure);
    }

    private static void dutyAndWhyBounds() {
        bounds("duty", (x, hand, mill, day, what, sure) -> x.duty(hand, mill, day, what, sure), 300, 0, 1, 0);
        bounds("why", (x, hand, mill, day, what, sure) -> x.why(hand, mill, day, what, sure), 9, NONE, 7, NONE);
    }

    /** FROM of RULE 9 (on day 0, not on day 359), then BAR by RULE 7 (maybe, not surely). */
    private static void bounds(String name, Asked asked, int from, int unfrom, int bar, int unbar) {
        Edge.of(name + ", a HAND", Busy::made, (x, n) -> asked.of(x, n, 0, 0, 1, 1)).takes(0, from).takes(2, from)
            .refusesBeyond(BAD);
        Edge.of(name + ", a MILL", Busy::made, (x, n) -> asked.of(x, 0, n, 0, 1, 1)).takes(0, from).takes(1, from)
            .refuses(NONE, BAD).refusesBeyond(BAD);
        Edge.of(name + ", a DAY", Busy::made, (x, n) -> asked.of(x, 0, 0, n, 1, 1)).takes(0, from).takes(199, from)
            .takes(200, unfrom).takes(359, unfrom).refusesBeyond(BAD);
        Edge.of(name + ", what 0 .. 6", Busy::made, (x, n) -> asked.of(x, 0, 0, 0, n, 0))
            .takes(0, name.equals("duty") ? 300 : 7).takes(6, bar).refusesBeyond(BAD);
        Edge.of(name + ", sure 0 .. 1", Busy::made, (x, n) -> asked.of(x, 0, 0, 0, 6, n)).takes(0, bar).takes(1, unbar)
            .refusesBeyond(BAD);
    }

    private static void quarrelBounds() {
        Edge.of("quarrel, a HAND", Busy::made, (x, n) -> x.quarrel(n, 0, 0)).takes(0, NONE).takes(2, NONE)
            .refusesBeyond(BAD);
        Edge.of("quarrel, a MILL", Busy::made, (x, n) -> x.quarrel(0, n, 0)).takes(0, NONE).takes(1, NONE)
            .refuses(NONE, BAD).refusesBeyond(BAD);
        Edge.of("quarrel, a DAY", Busy::made, (x, n) -> x.quarrel(0, 0, n)).takes(0, NONE).takes(359, NONE)
            .refusesBeyond(BAD);
    }

    private static void ruleBounds() {
        Edge.of("rule, the i-th", Busy::made, (x, n) -> x.rule(n, 0)).takes(0, 7).takes(2, 8).refusesBeyond(BAD);
        Edge.of("rule, the i-th of 16", RulesEdgesTest::sixteen, (x, n) -> x.rule(n, 0)).takes(0, 16).takes(15, 1)
            .refusesBeyond(BAD);
        Edge.of("rule, what 0 .. 4", Busy::made, (x, n) -> x.rule(1, n)).takes(0, 9).takes(1, 0).takes(2, 359)
            .takes(3, 200).takes(4, 2).refusesBeyond(BAD);
    }

    /** Terms 3: FROM (0), TO (1440), SCHOOL (0), REST (1440); WHY: NONE. */
    private static void withoutRules() {
        MillInspectors x = made("");
        int[] due = {900, 0, 1440, 0, 1440, 0, 0};
        for (int what = 0; what < 7; what++) {
            for (int sure = 0; sure < 2; sure++) {
                Due.is("duty " + what + " without rules", x.duty(0, 0, 0, what, sure), due[what]);
                Due.is("why " + what + " without rules", x.why(0, 0, 0, what, sure), NONE);
            }
        }
        Due.is("quarrel without rules", x.quarrel(0, 0, 0), NONE);
        Due.is("binds without rules", x.binds(0, 0, 0, 0), BAD);
    }

    /** Terms 3: "A RULE BINDS so, on its DAYS". */
    private static void firstAndLastDay() {
        MillInspectors x = made("rule 1 on 10-20:bar;rule 2 on 0-0:bar;rule 3 on 359-359:bar;rule 4 on 0-359:bar;");
        int[][] due = {{0, 9, 0}, {0, 10, 2}, {0, 20, 2}, {0, 21, 0}, {1, 0, 2}, {1, 1, 0}, {2, 358, 0}, {2, 359, 2},
            {3, 0, 2}, {3, 359, 2}};
        for (int[] d : due) {
            Due.is("rule " + d[0] + " on day " + d[1], x.binds(d[0], 0, 0, d[1]), d[2]);
        }
    }

    /** Terms 3: "if it is not STRUCK by then". */
    private static void strikeDay() {
        MillInspectors x = made("rule 1 on 10-20:bar;rule 2 on 10-20:bar;rule 3 on 10-20:bar;rule 4 on 10-20:bar;"
            + "rule 5 on 0-359:bar;strike 1 on 15;strike 2 on 10;strike 3 on 20;strike 4 on 21;strike 5 on 0;");
        int[][] due = {{0, 14, 2}, {0, 15, 0}, {0, 16, 0}, {1, 10, 0}, {1, 20, 0}, {2, 19, 2}, {2, 20, 0}, {3, 20, 2},
            {4, 0, 0}, {4, 359, 0}};
        for (int[] d : due) {
            Due.is("struck rule " + d[0] + " on day " + d[1], x.binds(d[0], 0, 0, d[1]), d[2]);
        }
    }

    private static void binds(String cond, int hand, int mill, int day, int due) {
        MillInspectors x = made("rule 1 on 0-359:if " + cond + " then bar;");
        Due.is(cond + " for hand " + hand + " on day " + day, x.binds(0, hand, mill, day), due);
    }

    /** Terms 3: "\"age\" by AGE's span (SURE if so for all of it, NOT if for none)": 8 .. 16 of hand 1. */
    private static void ageSpans() {
        for (int n = 0; n <= 40; n++) {
            binds("age<" + n, 1, 0, 0, n > 16 ? 2 : n > 8 ? 1 : 0);
            binds("age>" + n, 1, 0, 0, n < 8 ? 2 : n < 16 ? 1 : 0);
            binds("age=" + n, 1, 0, 0, n >= 8 && n <= 16 ? 1 : 0);
            binds("!age<" + n, 1, 0, 0, n > 16 ? 0 : n > 8 ? 1 : 2);
            binds("age<" + n, 0, 0, 0, n > 29 ? 2 : n > 0 ? 1 : 0);
            binds("age>" + n, 0, 0, 1, n < 30 ? 1 : 0);
        }
        MillInspectors x = made("rule 1 on 0-0:if age=10 then bar;rule 2 on 0-0:if age<10 then bar;"
            + "rule 3 on 0-0:if age>10 then bar;rule 4 on 0-0:if age<11 then bar;rule 5 on 0-0:if age>9 then bar;");
        x.paper(1, 0, 3600, 0);
        int[] due = {2, 0, 0, 2, 2};
        for (int i = 0; i < 5; i++) {
            Due.is("just ten years, rule " + i, x.binds(i, 1, 0, 0), due[i]);
        }
        for (int hand = 0; hand < 2; hand++) {
            binds("age=9999", hand, 0, 0, 0);
            binds("age<9999", hand, 0, 0, 2);
            binds("age>9999", hand, 0, 0, 0);
        }
    }

    private static void ageTurnsOnADay() {
        MillInspectors x = made("rule 1 on 0-359:if age<9 then bar;");
        x.paper(0, 0, 360 * 8 + 350, 0);
        Due.is("eight years, a day ahead of the birthday", x.binds(0, 0, 0, 9), 2);
        Due.is("nine years on it", x.binds(0, 0, 0, 10), 0);
    }

    private static void kindsAndMillsBeyond() {
        binds("kind=0", 0, 0, 0, 2);
        binds("kind=1", 0, 0, 0, 0);
        binds("kind=0", 1, 0, 0, 0);
        binds("kind=6", 0, 0, 0, 0);
        binds("kind=9999", 0, 0, 0, 0);
        binds("kind=9999", 1, 1, 0, 0);
        binds("mill=0", 0, 0, 0, 2);
        binds("mill=1", 0, 1, 0, 2);
        binds("mill=2", 0, 1, 0, 0);
        binds("mill=9999", 0, 1, 0, 0);
        binds("mill=9999", 1, 0, 0, 0);
        binds("trade=1", 0, 0, 0, 2);
        binds("trade=2", 0, 1, 0, 2);
        binds("trade=4", 0, 1, 0, 0);
        binds("trade=9999", 0, 1, 0, 0);
        binds("trade=9999", 1, 0, 0, 0);
    }

    /** Terms 3: "\"paper\": it has one." */
    private static void paperOfAHand() {
        MillInspectors x = made("rule 1 on 0-359:if paper then bar;");
        Due.is("no paper", x.binds(0, 0, 0, 0), 0);
        x.paper(0, 1, 33, 0);
        Due.is("a refused paper", x.binds(0, 0, 0, 0), 0);
        x.paper(0, 0, 5, 0);
        Due.is("one paper", x.binds(0, 0, 0, 0), 2);
        x.paper(0, 0, 6, 0);
        Due.is("papers that contradict", x.binds(0, 0, 0, 0), 2);
        x.paper(0, 0, 7, 0);
        Due.is("three papers", x.binds(0, 0, 0, 0), 2);
    }

    /** Terms 3: "! turns SURE and NOT; & is the least, | the greatest of both (NOT, MAYBE, SURE)." */
    private static void threeValues() {
        String[] tests = {"mill=1", "age=9", "mill=0"};
        for (int a = 0; a < 3; a++) {
            binds("!" + tests[a], 1, 0, 0, 2 - a);
            binds("!!" + tests[a], 1, 0, 0, a);
            for (int b = 0; b < 3; b++) {
                binds(tests[a] + "&" + tests[b], 1, 0, 0, Math.min(a, b));
                binds(tests[a] + "|" + tests[b], 1, 0, 0, Math.max(a, b));
                for (int c = 0; c < 3; c++) {
                    binds(tests[a] + "&" + tests[b] + "|" + tests[c], 1, 0, 0, Math.max(Math.min(a, b), c));
                    binds(tests[a] + "|" + tests[b] + "&" + tests[c], 1, 0, 0, Math.max(a, Math.min(b, c)));
                    binds("(" + tests[a] + "|" + tests[b] + ")&" + tests[c], 1, 0, 0, Math.min(Math.max(a, b), c));
                }
            }
        }
    }

    private static void howTightlySignsBind() {
        binds("!mill=0|mill=0", 1, 0, 0, 2);
        binds("!(mill=0|mill=0)", 1, 0, 0, 0);
        binds("!mill=1&mill=1", 1, 0, 0, 0);
        binds("!(mill=1&mill=1)", 1, 0, 0, 2);
        binds("mill=0|!mill=0&mill=1", 1, 0, 0, 2);
        binds("!!!mill=1", 1, 0, 0, 2);
        binds("!(!(!mill=1))", 1, 0, 0, 2);
        binds("!!(!mill=0|age=9)", 1, 0, 0, 1);
    }

    private static void deepestConds() {
        binds("!(".repeat(10) + "mill=0" + ")".repeat(10), 1, 0, 0, 2);
        binds("(".repeat(10) + "!mill=0" + ")".repeat(10), 1, 0, 0, 0);
        binds("mill=1|!(".repeat(10) + "!mill=0" + ")".repeat(10), 1, 0, 0, 0);
        binds("mill=1|mill=0&!(".repeat(9) + "mill=1|mill=0&(age=9)" + ")".repeat(9), 1, 0, 0, 1);
        binds("mill=0&".repeat(29) + "age=9", 1, 0, 0, 1);
        binds("mill=1|".repeat(29) + "age=9", 1, 0, 0, 1);
        binds("mill=1|".repeat(29) + "mill=0", 1, 0, 0, 2);
        binds("!".repeat(859) + "mill=1", 1, 0, 0, 2);
        binds("!".repeat(860) + "mill=1", 1, 0, 0, 0);
    }

    private static void asked(String act, int what, int duty, int why) {
        MillInspectors x = made(act);
        Due.is("duty " + what + " by " + act, x.duty(0, 0, 0, what, 1), duty);
        Due.is("why " + what + " by " + act, x.why(0, 0, 0, what, 1), why);
    }

    /** Terms 3: "HOURS: the least of all told and CUSTOM". */
    private static void hoursAndCustom() {
        asked("rule 1 on 0-0:hours 901;", 0, 900, NONE);
        asked("rule 1 on 0-0:hours 900;", 0, 900, 1);
        asked("rule 1 on 0-0:hours 899;", 0, 899, 1);
        asked("rule 1 on 0-0:hours 0;", 0, 0, 1);
        asked("rule 1 on 0-0:hours 1440;", 0, 900, NONE);
        asked("rule 2 on 0-0:hours 900;rule 1 on 0-0:hours 901;", 0, 900, 2);
        MillInspectors x = new MillInspectors();
        x.mill(0, 1, 1);
        int[] due = {810, 435, 660, 390, 729, 450};
        for (int kind = 0; kind < 6; kind++) {
            x.hand(kind, 3);
            x.paper(kind, 0, 5, 0);
            Due.is("HOURS by CUSTOM of KIND " + kind, x.duty(kind, 0, 0, 0, 1), due[kind]);
        }
        Due.is("the trace is custom()'s alone", x.trace(), 0);
    }

    /** Terms 3: FROM the latest, TO the earliest, SCHOOL the greatest, REST the least; PAPER, BAR whether. */
    private static void leastAndGreatest() {
        asked("rule 1 on 0-0:from 0 to 1439;", 1, 0, 1);
        asked("rule 1 on 0-0:from 0 to 1439;", 2, 1439, 1);
        asked("rule 1 on 0-0:from 5 to 10;rule 2 on 0-0:from 6 to 11;", 1, 6, 2);
        asked("rule 1 on 0-0:from 5 to 10;rule 2 on 0-0:from 6 to 11;", 2, 10, 1);
        asked("rule 2 on 0-0:from 6 to 10;rule 1 on 0-0:from 6 to 10;", 1, 6, 1);
        asked("rule 2 on 0-0:from 6 to 10;rule 1 on 0-0:from 6 to 10;", 2, 10, 1);
        asked("rule 1 on 0-0:from 9 to 10;rule 2 on 0-0:from 3 to 4;", 1, 9, 1);
        asked("rule 1 on 0-0:from 9 to 10;rule 2 on 0-0:from 3 to 4;", 2, 4, 2);
        asked("rule 1 on 0-0:school 0;", 3, 0, 1);
        asked("rule 1 on 0-0:school 600;", 3, 600, 1);
        asked("rule 1 on 0-0:school 7;rule 2 on 0-0:school 8;", 3, 8, 2);
        asked("rule 1 on 0-0:rest 1440;", 4, 1440, 1);
        asked("rule 1 on 0-0:rest 1;", 4, 1, 1);
        asked("rule 1 on 0-0:rest 7;rule 2 on 0-0:rest 6;", 4, 6, 2);
        asked("rule 1 on 0-0:bar;", 5, 0, NONE);
        asked("rule 1 on 0-0:paper;", 5, 1, 1);
        asked("rule 1 on 0-0:paper;", 6, 0, NONE);
        asked("rule 2 on 0-0:bar;rule 1 on 0-0:bar;", 6, 1, 1);
        asked("rule 1 on 0-0:if paper then bar;rule 2 on 1-1:bar;rule 3 on 0-0:bar;strike 3 on 0;", 6, 0, NONE);
    }

    /** Terms 3: "by RULES that BIND SURELY, or by those that BIND at least MAYBE". */
    private static void surelyOrMaybe() {
        MillInspectors x = made("rule 5 on 0-0:hours 300,from 5 to 900,school 5,rest 300;"
            + "rule 4 on 0-0:if age=9 then hours 299,from 6 to 899,school 6,rest 299;"
            + "rule 3 on 0-0:if age=9 then paper,bar;rule 2 on 0-0:if age<8 then hours 1,school 600,bar,paper;");
        int[] sure = {300, 5, 900, 5, 300, 0, 0};
        int[] maybe = {299, 6, 899, 6, 299, 1, 1};
        int[] whySure = {5, 5, 5, 5, 5, NONE, NONE};
        int[] whyMaybe = {4, 4, 4, 4, 4, 3, 3};
        for (int what = 0; what < 7; what++) {
            Due.is("surely, duty " + what, x.duty(1, 0, 0, what, 1), sure[what]);
            Due.is("maybe, duty " + what, x.duty(1, 0, 0, what, 0), maybe[what]);
            Due.is("surely, why " + what, x.why(1, 0, 0, what, 1), whySure[what]);
            Due.is("maybe, why " + what, x.why(1, 0, 0, what, 0), whyMaybe[what]);
        }
    }

    /** Terms 3: "WHY: the least RULE that tells just that number". */
    private static void whyNotAndWhyJustThat() {
        asked("rule 99 on 0-0:school 9;rule 1 on 0-0:school 8;", 3, 9, 99);
        asked("rule 99 on 0-0:school 9;rule 98 on 0-0:school 9;rule 97 on 0-0:school 8;", 3, 9, 98);
        MillInspectors x = made("rule 7 on 0-0:school 0,hours 900,rest 1440;rule 6 on 0-0:if age=9 then school 0,hours 900;");
        Due.is("surely the number that is there anyway: school", x.why(0, 0, 0, 3, 1), 7);
        Due.is("maybe the same: school", x.why(0, 0, 0, 3, 0), 6);
        Due.is("surely the number that is there anyway: hours", x.why(0, 0, 0, 0, 1), 7);
        Due.is("maybe the same: hours", x.why(0, 0, 0, 0, 0), 6);
        Due.is("rest", x.why(0, 0, 0, 4, 0), 7);
    }

    private static void quarrel(String act, int due) {
        Due.is("quarrel of " + act, made(act).quarrel(1, 0, 0), due);
    }

    /** Terms 3: QUARREL: "one's FROM is the other's TO or above". */
    private static void quarrelEdges() {
        quarrel("rule 1 on 0-0:from 100 to 200;", NONE);
        quarrel("rule 1 on 0-0:from 100 to 200;rule 2 on 0-0:from 199 to 300;", NONE);
        quarrel("rule 1 on 0-0:from 100 to 200;rule 2 on 0-0:from 200 to 300;", 102);
        quarrel("rule 1 on 0-0:from 100 to 200;rule 2 on 0-0:from 201 to 300;", 102);
        quarrel("rule 1 on 0-0:from 199 to 300;rule 2 on 0-0:from 100 to 200;", NONE);
        quarrel("rule 1 on 0-0:from 200 to 300;rule 2 on 0-0:from 100 to 200;", 102);
        quarrel("rule 1 on 0-0:from 0 to 1;rule 2 on 0-0:from 1438 to 1439;", 102);
        quarrel("rule 99 on 0-0:from 1 to 2;rule 98 on 0-0:from 2 to 3;", 9998);
        quarrel("rule 1 on 0-0:from 1 to 2;rule 99 on 0-0:from 2 to 3;", 199);
        quarrel("rule 1 on 0-0:bar;rule 2 on 0-0:from 2 to 3;", NONE);
        quarrel("rule 1 on 0-0:from 1 to 2;rule 2 on 1-1:from 2 to 3;", NONE);
        quarrel("rule 1 on 0-0:from 1 to 2;rule 2 on 0-9:from 2 to 3;strike 2 on 0;", NONE);
        quarrel("rule 1 on 0-0:from 1 to 2;rule 2 on 0-9:from 2 to 3;strike 2 on 1;", 102);
        quarrel("rule 1 on 0-0:from 1 to 2;rule 2 on 0-0:if age=9 then from 2 to 3;", NONE);
        quarrel("rule 1 on 0-0:from 1 to 2;rule 2 on 0-0:if age>7 then from 2 to 3;", 102);
    }

    /** Terms 3: "the first two (by their place in the ACT, the first one first)". */
    private static void quarrelOrder() {
        quarrel("rule 9 on 0-0:from 1 to 2;rule 8 on 0-0:from 2 to 3;rule 7 on 0-0:from 3 to 4;", 908);
        quarrel("rule 9 on 0-0:from 1 to 9;rule 8 on 0-0:from 2 to 3;rule 7 on 0-0:from 3 to 4;rule 6 on 0-0:from 9 to 10;", 906);
        quarrel("rule 9 on 0-0:from 1 to 9;rule 8 on 0-0:from 2 to 3;rule 7 on 0-0:from 3 to 4;rule 6 on 0-0:from 8 to 10;", 807);
        quarrel("rule 5 on 0-0:bar;rule 9 on 0-0:from 1 to 9;rule 1 on 0-0:from 9 to 10;", 901);
    }

    /** Promise 15. */
    private static void numbersOfRule() {
        MillInspectors x = made("rule 99 on 0-0:hours 0,from 0 to 1,school 0,rest 1;rule 1 on 359-359:bar;strike 1 on 359;"
            + "rule 50 on 0-359:paper,bar;strike 50 on 0;");
        int[][] due = {{99, 0, 0, NONE, 4}, {1, 359, 359, 359, 1}, {50, 0, 359, 0, 2}};
        for (int i = 0; i < 3; i++) {
            for (int what = 0; what < 5; what++) {
                Due.is("rule(" + i + ", " + what + ")", x.rule(i, what), due[i][what]);
            }
        }
    }
}
