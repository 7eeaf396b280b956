/** Promises 8 to 15: type, clear, act, binds, duty, why, quarrel, rule. */
public final class ActsTest {
    private static final int BAD = MillInspectors.BAD, NONE = MillInspectors.NONE;

    public static void main(String[] args) {
        typing();
        items();
        days();
        duties();
        conds();
        limits();
        nothingChanges();
        bindings();
        logic();
        dutiesAsked();
        reasons();
        quarrels();
        rules();
        wrongNumbers();
        Due.end("ActsTest");
    }

    private static MillInspectors made() {
        MillInspectors x = new MillInspectors();
        x.mill(1, 4, 2);
        x.mill(2, 5, 3);
        x.hand(1, 0);
        x.hand(0, 0);
        return x;
    }

    private static void typing() {
        MillInspectors x = new MillInspectors();
        Due.is("type of no byte", x.type(5, 0), BAD);
        Due.is("type of 9 bytes", x.type(5, 9), BAD);
        Due.is("type of -1 bytes", x.type(5, -1), BAD);
        for (int k = 1; k <= 112; k++) {
            Due.is("type", x.type(0x2020202020202020L, 8), 8 * k);
        }
        Due.is("five more", x.type(0L, 5), MillInspectors.FULL);
        Due.is("nine more", x.type(0L, 9), BAD);
        Due.is("nothing changed", x.count(7), 896);
        Due.is("four more", x.type(0x20202020L, 4), 900);
        Due.is("one more", x.type(0L, 1), MillInspectors.FULL);
        Due.is("act of blanks", x.act(), 0);
        Due.is("the text is empty then", x.count(7), 0);
        Due.is("the lowest bytes only, the highest of them first", x.type(0x7878782072756c65L, 4), 4);
        x.type(0x0a31L, 2);
        Due.is("clear", x.clear(), 6);
        Due.is("clear again", x.clear(), 0);
        Due.type(x, "rule 1 on 0-0:bar");
        x.type(0x7878783bL, 1);
        Due.is("act of it", x.act(), 1);
    }

    private static void items() {
        Due.accepts(made(), "", 0);
        Due.accepts(made(), "  \n ", 0);
        Due.accepts(made(), "rule 1 on 0-359:bar;", 1);
        Due.accepts(made(), "rule1on0-359:bar;strike1on0;strike 1 on 359;", 1);
        Due.accepts(made(), "rule\n1\non\n0\n-\n359\n:\nif\npaper\nthen\nbar\n;\n", 1);
        Due.accepts(made(), "rule 9 on 0-0:bar;rule 8 on 0-0:bar;strike 8 on 1;strike 9 on 2;", 2);
        Due.fault(made(), "^ruler");
        Due.fault(made(), "^rul");
        Due.fault(made(), "^mule 1 on 0-0:bar;");
        Due.fault(made(), "rule 1 ^in 0-0:bar;");
        Due.fault(made(), "^bar;");
        Due.fault(made(), "^;");
        Due.fault(made(), "^7");
        Due.fault(made(), "rule^");
        Due.fault(made(), "rule  \n^");
        Due.fault(made(), "rule 1^");
        Due.fault(made(), "rule 1 ^if");
        Due.fault(made(), "rule 1 on 0-0:bar^");
        Due.fault(made(), "rule 1 on 0-0:bar;^bar;");
        Due.fault(made(), "rule 1 on 0-0:bar;^;");
        Due.fault(made(), "rule 1 on 0-0:bar; ^on");
        Due.fault(made(), "rule ^0 on 0-0:bar;");
        Due.fault(made(), "rule ^100 on 0-0:bar;");
        Due.fault(made(), "rule ^01 on 0-0:bar;");
        Due.fault(made(), "rule ^00 on 0-0:bar;");
        Due.fault(made(), "rule ^10000 on 0-0:bar;");
        Due.fault(made(), "rule ^4294967297 on 0-0:bar;");
        Due.fault(made(), "rule ^on 0-0:bar;");
        Due.fault(made(), "rule 1 on 0-0:bar;rule ^1 on 0-0:bar;");
        Due.fault(made(), "rule 1 ^\t on 0-0:bar;");
        Due.fault(made(), "rule 1 on 0-0^\u00bf");
        Due.fault(made(), "^Rule 1 on 0-0:bar;");
        Due.fault(made(), "rule 1 on 0-0:bar^.");
        Due.fault(made(), "strike^");
        Due.fault(made(), "strike ^1 on 0;");
        Due.fault(made(), "strike ^rule 1 on 0-0:bar;");
        Due.fault(made(), "rule 2 on 0-0:bar;strike 2 ^rule 3 on 0-0:bar;");
        Due.fault(made(), "rule 2 on 0-0:bar;strike 2 on ^rule 3 on 0-0:bar;");
        Due.fault(made(), "rule 2 on 0-0:bar;strike 2 on 0 ^rule 3 on 0-0:bar;");
        Due.fault(made(), "strike ^1 on 0;rule 1 on 0-0:bar;");
        Due.fault(made(), "rule 2 on 0-0:bar;strike ^1 on 0;");
        Due.fault(made(), "rule 2 on 0-0:bar;strike ^bar");
        Due.fault(made(), "rule 2 on 0-0:bar;strike 2 ^0;");
        Due.fault(made(), "rule 2 on 0-0:bar;strike 2 on ^360;");
        Due.fault(made(), "rule 2 on 0-0:bar;strike 2 on 0^");
        Due.fault(made(), "rule 2 on 0-0:bar;strike 2 on 0^:");
    }

    private static void days() {
        Due.accepts(made(), "rule 99 on 359-359:bar;", 1);
        Due.fault(made(), "rule 1 on ^360-360:bar;");
        Due.fault(made(), "rule 1 on 0-^360:bar;");
        Due.fault(made(), "rule 1 on 5-^4:bar;");
        Due.fault(made(), "rule 1 on 5^:bar;");
        Due.fault(made(), "rule 1 on 5-^:bar;");
        Due.fault(made(), "rule 1 on 5-6^;bar;");
        Due.fault(made(), "rule 1 on 5-6^");
        Due.fault(made(), "rule 1 on ^-6:bar;");
    }

    private static void duties() {
        Due.accepts(made(), "rule 1 on 0-0:hours 0;rule 2 on 0-0:hours 1440;rule 3 on 0-0:school 0;"
            + "rule 4 on 0-0:school 600;rule 5 on 0-0:rest 1;rule 6 on 0-0:rest 1440;"
            + "rule 7 on 0-0:from 0 to 1;rule 8 on 0-0:from 1438 to 1439;rule 9 on 0-0:paper;", 9);
        Due.accepts(made(), "rule 1 on 0-0:hours 1,from 1 to 2,school 3,rest 4;", 1);
        Due.accepts(made(), "rule 1 on 0-0:bar,paper,rest 4,school 3;", 1);
        Due.fault(made(), "rule 1 on 0-0:^;");
        Due.fault(made(), "rule 1 on 0-0:hours ^1441;");
        Due.fault(made(), "rule 1 on 0-0:hours ^;");
        Due.fault(made(), "rule 1 on 0-0:school ^601;");
        Due.fault(made(), "rule 1 on 0-0:rest ^0;");
        Due.fault(made(), "rule 1 on 0-0:rest ^1441;");
        Due.fault(made(), "rule 1 on 0-0:from 9 to ^9;");
        Due.fault(made(), "rule 1 on 0-0:from 9 to ^8;");
        Due.fault(made(), "rule 1 on 0-0:from ^1440 to 1441;");
        Due.fault(made(), "rule 1 on 0-0:from 9 to ^1440;");
        Due.fault(made(), "rule 1 on 0-0:from 1439 to ^1439;");
        Due.fault(made(), "rule 1 on 0-0:from 9 ^9;");
        Due.fault(made(), "rule 1 on 0-0:from ^,bar;");
        Due.fault(made(), "rule 1 on 0-0:from 9^,bar;");
        Due.fault(made(), "rule 1 on 0-0:from 9 to ^,bar;");
        Due.fault(made(), "rule 1 on 0-0:hours ^,bar;");
        Due.fault(made(), "rule 1 on 0-0:^barz;");
        Due.fault(made(), "rule 1 on 0-0:from ^to 9;");
        Due.fault(made(), "rule 1 on 0-0:bar,^bar;");
        Due.fault(made(), "rule 1 on 0-0:from 1 to 2,^from 1 to 2;");
        Due.fault(made(), "rule 1 on 0-0:hours 1,paper,^hours 1;");
        Due.fault(made(), "rule 1 on 0-0:bar,^;");
        Due.fault(made(), "rule 1 on 0-0:bar ^bar;");
        Due.fault(made(), "rule 1 on 0-0:bar ^9;");
        Due.fault(made(), "rule 1 on 0-0:^to 9;");
        Due.fault(made(), "rule 1 on 0-0:^age<9;");
        Due.fault(made(), "rule 1 on 0-0:hours 1,school 1,rest 1,paper,^bar;");
        Due.fault(made(), "rule 1 on 0-0:hours 1,school 1,rest 1,paper,^paper;");
        Due.fault(made(), "rule 1 on 0-0:hours 1,school 1,rest 1,paper,^;");
        Due.fault(made(), "rule 1 on 0-0:hours 1,school 1,rest 1,paper, ^");
    }

    private static void conds() {
        Due.accepts(made(), "rule 1 on 0-0:if age<0 then bar;rule 2 on 0-0:if age>9999|kind=9999&trade=9999 then bar;"
            + "rule 3 on 0-0:if !!!(mill=9999)&!(paper) then paper;", 3);
        Due.fault(made(), "rule 1 on 0-1:if age<5 ^bar;");
        Due.fault(made(), "rule 1 on 0-1:if !(paper ^then bar;");
        Due.fault(made(), "rule 1 on 0-1:if ^then bar;");
        Due.fault(made(), "rule 1 on 0-1:if !^then bar;");
        Due.fault(made(), "rule 1 on 0-1:if (^) then bar;");
        Due.fault(made(), "rule 1 on 0-1:if paper^) then bar;");
        Due.fault(made(), "rule 1 on 0-1:if (paper)^) then bar;");
        Due.fault(made(), "rule 1 on 0-1:if paper ^paper then bar;");
        Due.fault(made(), "rule 1 on 0-1:if paper ^! paper then bar;");
        Due.fault(made(), "rule 1 on 0-1:if paper ^(paper) then bar;");
        Due.fault(made(), "rule 1 on 0-1:if paper&^|paper then bar;");
        Due.fault(made(), "rule 1 on 0-1:if paper|^then bar;");
        Due.fault(made(), "rule 1 on 0-1:if ^&paper then bar;");
        Due.fault(made(), "rule 1 on 0-1:if age^!5 then bar;");
        Due.fault(made(), "rule 1 on 0-1:if age^5 then bar;");
        Due.fault(made(), "rule 1 on 0-1:if age<^paper then bar;");
        Due.fault(made(), "rule 1 on 0-1:if age<^=5 then bar;");
        Due.fault(made(), "rule 1 on 0-1:if age<^10000 then bar;");
        Due.fault(made(), "rule 1 on 0-1:if kind^<5 then bar;");
        Due.fault(made(), "rule 1 on 0-1:if trade^>5 then bar;");
        Due.fault(made(), "rule 1 on 0-1:if mill^;");
        Due.fault(made(), "rule 1 on 0-1:if mill=^;");
        Due.fault(made(), "rule 1 on 0-1:if paper^=5 then bar;");
        Due.fault(made(), "rule 1 on 0-1:if ^hours 5 then bar;");
        Due.fault(made(), "rule 1 on 0-1:if ^if paper then bar;");
        Due.fault(made(), "rule 1 on 0-1:if paper then ^if");
        Due.fault(made(), "rule 1 on 0-1:if paper then^");
        Due.fault(made(), "rule 1 on 0-1:if ((paper^");
        Due.fault(made(), "rule 1 on 0-1:if ^ifpaper then bar;");
    }

    private static String times(String text, int n) {
        StringBuilder all = new StringBuilder();
        for (int k = 0; k < n; k++) {
            all.append(text);
        }
        return all.toString();
    }

    private static void limits() {
        StringBuilder rules = new StringBuilder();
        for (int k = 1; k <= 16; k++) {
            rules.append("rule ").append(k).append(" on 0-0:bar;");
        }
        Due.accepts(made(), rules.toString(), 16);
        Due.accepts(made(), rules + "strike 16 on 3;", 16);
        Due.fault(made(), rules + "^rule 17 on 0-0:bar;");
        Due.fault(made(), rules + "^rule");
        Due.accepts(made(), "rule 1 on 0-0:if " + times("(", 10) + "paper" + times(")", 10) + " then bar;", 1);
        Due.accepts(made(), "rule 1 on 0-0:if " + times("((((((((((paper))))))))))&", 3) + "paper then bar;", 1);
        Due.fault(made(), "rule 1 on 0-0:if " + times("(", 10) + "^(paper" + times(")", 11) + " then bar;");
        Due.fault(made(), "rule 1 on 0-0:if " + times("!(", 10) + "!^(");
        Due.accepts(made(), "rule 1 on 0-0:if " + times("paper&", 29) + "paper then bar;", 1);
        Due.accepts(made(), "rule 1 on 0-0:if " + times("paper&", 29) + "paper then bar;"
            + "rule 2 on 0-0:if " + times("mill=1|", 29) + "paper then bar;", 2);
        Due.fault(made(), "rule 1 on 0-0:if " + times("paper&", 30) + "^paper then bar;");
        Due.fault(made(), "rule 1 on 0-0:if " + times("paper&", 30) + "!(^age<5) then bar;");
        MillInspectors x = made();
        Due.accepts(x, "rule 1 on 0-0:if " + times("!", 865) + "paper then bar;", 1);
        Due.is("binds by 865 turns", x.binds(0, 0, 0, 0), 2);
        x = made();
        Due.accepts(x, "rule 1 on 0-0:if " + times("!", 864) + "paper then bar;", 1);
        Due.is("binds by 864 turns", x.binds(0, 0, 0, 0), 0);
        Due.fault(made(), "rule 1 on 0-0:hours ^" + times("9", 800));
    }

    private static void nothingChanges() {
        MillInspectors x = made();
        Due.accepts(x, "rule 7 on 3-4:if paper then bar,hours 5;strike 7 on 4;", 1);
        Due.fault(x, "rule 8 on 0-0:bar;rule 9 on 0-0:bar;strike 8 on 0;^x");
        Due.is("rules", x.count(2), 1);
        Due.is("number", x.rule(0, 0), 7);
        Due.is("struck", x.rule(0, 3), 4);
        Due.is("duties", x.rule(0, 4), 2);
        Due.is("binds", x.binds(0, 0, 0, 3), 0);
        x.paper(0, 0, 1, 1);
        Due.is("binds with a paper", x.binds(0, 0, 0, 3), 2);
        Due.type(x, "rule 8 on 0-0:bar");
        Due.is("ends too early", x.act(), -10 - 17);
        Due.is("the text stays", Due.type(x, ";"), 18);
        Due.is("and can be gone on with", x.act(), 1);
        Due.is("the new ACT's rule", x.rule(0, 0), 8);
        Due.is("no text is left", x.count(7), 0);
        Due.is("the empty text is an ACT", x.act(), 0);
        Due.is("without rules", x.count(2), 0);
        Due.fault(x, "rule 1 on 0-0:if mill=0&!(!^");
        Due.accepts(x, "rule 1 on 0-0:if mill=0 then bar;", 1);
        Due.is("signs of a faulty text are forgotten", x.binds(0, 0, 0, 0), 2);
    }

    private static void bindings() {
        MillInspectors x = made();
        Due.accepts(x, "rule 5 on 10-20:bar;rule 3 on 0-359:bar;strike 3 on 200;strike 3 on 100;strike 3 on 150;", 2);
        Due.is("a day ahead", x.binds(0, 0, 0, 9), 0);
        Due.is("the first day", x.binds(0, 0, 0, 10), 2);
        Due.is("the last day", x.binds(0, 0, 0, 20), 2);
        Due.is("a day behind", x.binds(0, 0, 0, 21), 0);
        Due.is("a day ahead of the strike", x.binds(1, 0, 0, 99), 2);
        Due.is("the day of the strike", x.binds(1, 0, 0, 100), 0);
        Due.is("behind the strike", x.binds(1, 0, 0, 359), 0);
        Due.is("the first day of it counts", x.rule(1, 3), 100);
        Due.accepts(x, "rule 1 on 0-0:bar;strike 1 on 0;", 1);
        Due.is("struck at once", x.binds(0, 0, 0, 0), 0);
    }

    /** How a COND holds for hand 0 (a child of 8 to 16 years on day 0, if it has a paper) at mill 0. */
    private static void cond(MillInspectors x, String cond, int due) {
        Due.accepts(x, "rule 1 on 0-359:if " + cond + " then bar;", 1);
        Due.is(cond, x.binds(0, 0, 0, 0), due);
    }

    private static void logic() {
        MillInspectors x = made();
        cond(x, "paper", 0);
        cond(x, "!paper", 2);
        x.paper(0, 1, 24, 0);
        cond(x, "paper", 2);
        String[][] ages = {{"<", "8", "9", "16", "17"}, {">", "16", "15", "8", "7"}};
        for (String[] a : ages) {
            cond(x, "age" + a[0] + a[1], 0);
            cond(x, "age" + a[0] + a[2], 1);
            cond(x, "age" + a[0] + a[3], 1);
            cond(x, "age" + a[0] + a[4], 2);
        }
        cond(x, "age=7", 0);
        cond(x, "age=8", 1);
        cond(x, "age=16", 1);
        cond(x, "age=17", 0);
        cond(x, "!age=10", 1);
        cond(x, "!age<8", 2);
        cond(x, "kind=1", 2);
        cond(x, "kind=0", 0);
        cond(x, "trade=1", 2);
        cond(x, "trade=2", 0);
        cond(x, "mill=0", 2);
        cond(x, "mill=1", 0);
        cond(x, "mill=0&age=9", 1);
        cond(x, "mill=1&age=9", 0);
        cond(x, "mill=0|age=9", 2);
        cond(x, "mill=1|age=9", 1);
        cond(x, "mill=1&mill=1|mill=0", 2);
        cond(x, "mill=0|mill=1&mill=1", 2);
        cond(x, "(mill=0|mill=1)&mill=1", 0);
        cond(x, "!mill=1&mill=1", 0);
        cond(x, "!(mill=1&mill=1)", 2);
        cond(x, "!mill=0|mill=0", 2);
        cond(x, "!(mill=0|mill=0)", 0);
        cond(x, "age=9&!age=9", 1);
        cond(x, "!(!(age=9|mill=1)&!!mill=0)|mill=1", 1);
        x.paper(0, 0, 3600, 0);
        cond(x, "age=10", 2);
        cond(x, "age<10", 0);
        cond(x, "age>10", 0);
        cond(x, "!age=10", 0);
        x.paper(0, 0, 1, 0);
        cond(x, "age=10", 1);
        cond(x, "paper", 2);
        MillInspectors y = made();
        y.hand(3, 0);
        Due.accepts(y, "rule 1 on 0-0:if kind=1 then bar;rule 2 on 0-0:if mill=1&trade=2 then bar;", 2);
        Due.is("a KIND's own number alone", y.binds(0, 2, 0, 0), 0);
        Due.is("the other mill", y.binds(1, 2, 1, 0), 2);
    }

    private static void dutiesAsked() {
        MillInspectors x = made();
        int[] alone = {480, 0, 1440, 0, 1440, 0, 0};
        for (int what = 0; what < 7; what++) {
            Due.is("duty " + what + " without rules", x.duty(0, 0, 0, what, 1), alone[what]);
            Due.is("why " + what + " without rules", x.why(0, 0, 0, what, 0), NONE);
        }
        Due.accepts(x, "rule 4 on 0-9:hours 300,from 300 to 1200,school 100,rest 400;"
            + "rule 3 on 0-9:if age<10 then hours 200,from 400 to 1300,school 200,rest 300;"
            + "rule 2 on 0-9:hours 900,from 200 to 1100,school 50,rest 500;"
            + "rule 1 on 0-9:if age<10 then paper,bar;", 4);
        int[] sure = {300, 300, 1100, 100, 400, 0, 0};
        int[] maybe = {200, 400, 1100, 200, 300, 1, 1};
        int[] whySure = {4, 4, 2, 4, 4, NONE, NONE};
        int[] whyMaybe = {3, 3, 2, 3, 3, 1, 1};
        for (int what = 0; what < 7; what++) {
            Due.is("duty " + what + ", sure", x.duty(0, 0, 9, what, 1), sure[what]);
            Due.is("duty " + what + ", maybe", x.duty(0, 0, 9, what, 0), maybe[what]);
            Due.is("why " + what + ", sure", x.why(0, 0, 9, what, 1), whySure[what]);
            Due.is("why " + what + ", maybe", x.why(0, 0, 9, what, 0), whyMaybe[what]);
            Due.is("duty " + what + ", another day", x.duty(0, 0, 10, what, 0), alone[what]);
        }
        x.paper(0, 0, 3600, 0);
        Due.is("hours of one of ten", x.duty(0, 0, 9, 0, 0), 300);
        x.hand(5, 0);
        x.paper(2, 0, 0, 0);
        Due.accepts(x, "rule 1 on 0-0:hours 600;", 1);
        Due.is("custom grows with papers", x.duty(2, 0, 0, 0, 1), 495);
        Due.is("the rule is above it", x.why(2, 0, 0, 0, 1), NONE);
        Due.is("hours 600 of a hand", x.duty(1, 0, 0, 0, 1), 600);
    }

    private static void reasons() {
        MillInspectors x = made();
        Due.accepts(x, "rule 9 on 0-0:hours 480,from 0 to 1439,school 0,rest 1440;"
            + "rule 7 on 0-0:hours 480,from 0 to 1439,school 0,rest 1440;rule 8 on 0-0:bar,paper;"
            + "rule 6 on 0-0:if age<5 then hours 480,school 0;", 4);
        int[] sure = {7, 7, 7, 7, 7, 8, 8};
        for (int what = 0; what < 7; what++) {
            Due.is("the least rule of " + what, x.why(0, 0, 0, what, 1), sure[what]);
        }
        Due.is("the least that binds maybe, hours", x.why(0, 0, 0, 0, 0), 6);
        Due.is("the least that binds maybe, school", x.why(0, 0, 0, 3, 0), 6);
    }

    private static void quarrels() {
        MillInspectors x = made();
        Due.is("no act", x.quarrel(0, 0, 0), NONE);
        Due.accepts(x, "rule 30 on 0-9:from 100 to 200;rule 20 on 0-9:bar;rule 10 on 0-9:from 150 to 201;"
            + "rule 5 on 0-8:from 200 to 300;rule 4 on 0-7:from 50 to 100;rule 3 on 0-6:if age<5 then from 0 to 1;", 6);
        Due.is("the first two", x.quarrel(0, 0, 0), 3005);
        Due.is("the first two, without 5", x.quarrel(0, 0, 9), NONE);
        Due.accepts(x, "rule 30 on 0-9:from 100 to 200;rule 4 on 0-7:from 50 to 100;", 2);
        Due.is("one's TO is the other's FROM", x.quarrel(0, 0, 0), 3004);
        Due.accepts(x, "rule 30 on 0-9:from 100 to 200;rule 4 on 0-7:from 50 to 101;", 2);
        Due.is("one's TO is above the other's FROM", x.quarrel(0, 0, 0), NONE);
        Due.accepts(x, "rule 1 on 0-9:from 100 to 200;rule 2 on 0-7:if age<5 then from 300 to 301;", 2);
        Due.is("maybe is no quarrel", x.quarrel(0, 0, 0), NONE);
        Due.accepts(x, "rule 1 on 0-9:from 100 to 900;rule 2 on 0-7:from 300 to 400;rule 3 on 0-7:from 400 to 500;"
            + "rule 4 on 0-9:from 900 to 901;", 4);
        Due.is("by the first one first", x.quarrel(0, 0, 0), 104);
        Due.is("quarrel of no hand", x.quarrel(2, 0, 0), BAD);
        Due.is("quarrel at no mill", x.quarrel(0, 2, 0), BAD);
        Due.is("quarrel at SCHOOL", x.quarrel(0, NONE, 0), BAD);
        Due.is("quarrel on no day", x.quarrel(0, 0, 360), BAD);
    }

    private static void rules() {
        MillInspectors x = made();
        Due.accepts(x, "rule 42 on 7-9:hours 1,from 1 to 2,bar;rule 41 on 0-359:bar;strike 42 on 0;", 2);
        int[] first = {42, 7, 9, 0, 3};
        int[] second = {41, 0, 359, NONE, 1};
        for (int what = 0; what < 5; what++) {
            Due.is("rule(0, " + what + ")", x.rule(0, what), first[what]);
            Due.is("rule(1, " + what + ")", x.rule(1, what), second[what]);
        }
        Due.is("rule(2, 0)", x.rule(2, 0), BAD);
        Due.is("rule(-1, 0)", x.rule(-1, 0), BAD);
        Due.is("rule(0, 5)", x.rule(0, 5), BAD);
        Due.is("rule(0, -1)", x.rule(0, -1), BAD);
    }

    private static void wrongNumbers() {
        MillInspectors x = made();
        Due.accepts(x, "rule 1 on 0-359:bar;", 1);
        int[][] wrong = {{2, 0, 0, 0, 0}, {-1, 0, 0, 0, 0}, {0, 2, 0, 0, 0}, {0, NONE, 0, 0, 0}, {0, 0, 360, 0, 0},
            {0, 0, -1, 0, 0}, {0, 0, 0, 7, 0}, {0, 0, 0, -1, 0}, {0, 0, 0, 0, 2}, {0, 0, 0, 0, -1}};
        for (int[] w : wrong) {
            Due.is("wrong duty", x.duty(w[0], w[1], w[2], w[3], w[4]), BAD);
            Due.is("wrong why", x.why(w[0], w[1], w[2], w[3], w[4]), BAD);
        }
        for (int k = 0; k < 6; k++) {
            Due.is("wrong binds", x.binds(0, wrong[k][0], wrong[k][1], wrong[k][2]), BAD);
        }
        Due.is("binds of no rule", x.binds(1, 0, 0, 0), BAD);
        Due.is("binds of rule -1", x.binds(-1, 0, 0, 0), BAD);
    }
}
