/** Promises 16 to 22: line, check, truth, work, breach, clash, doubted. */
public final class BooksTest {
    private static final int BAD = MillInspectors.BAD, NONE = MillInspectors.NONE;

    public static void main(String[] args) {
        lines();
        checks();
        truths();
        works();
        hoursBreached();
        spansBreached();
        schoolBreached();
        restBreached();
        papersAndBars();
        breachesOverMills();
        clashes();
        doubts();
        tooManyToDoubt();
        Due.end("BooksTest");
    }

    private static MillInspectors made() {
        MillInspectors x = new MillInspectors();
        x.mill(1, 4, 2);
        x.mill(2, 5, 3);
        x.hand(0, 0);
        x.hand(1, 0);
        return x;
    }

    private static void lines() {
        MillInspectors x = made();
        int[][] wrong = {{2, 0, 0, 1, 2}, {-1, 0, 0, 1, 2}, {0, -1, 0, 1, 2}, {0, 360, 0, 1, 2}, {0, 0, 2, 1, 2},
            {0, 0, -1, 1, 2}, {0, 0, -8, 1, 2}, {0, 0, 0, -1, 2}, {0, 0, 0, 2, 2}, {0, 0, 0, 3, 2}, {0, 0, 0, 3, 1441},
            {0, 0, NONE, 3, 1441}, {0, 0, NONE, -1, 3}};
        for (int[] w : wrong) {
            Due.is("wrong line", x.line(w[0], w[1], w[2], w[3], w[4]), BAD);
        }
        Due.is("lines after wrong ones", x.count(3), 0);
        for (int k = 1; k <= 60; k++) {
            Due.is("line " + k, x.line(k % 2, k, k % 3 == 0 ? NONE : k % 3 - 1, k, k + 1), k);
        }
        Due.is("a 61st", x.line(0, 0, 0, 0, 1), MillInspectors.FULL);
        Due.is("a wrong 61st", x.line(0, 0, 0, 1, 1), BAD);
        Due.is("lines", x.count(3), 60);
        MillInspectors y = made();
        Due.is("a whole day", y.line(0, 0, 0, 0, 1440), 1);
        Due.is("its work", y.work(0, 0, 0), 1440);
    }

    private static void checks() {
        MillInspectors x = made();
        int[][] wrong = {{2, 0, 0}, {-1, 0, 0}, {NONE, 0, 0}, {0, -1, 0}, {0, 1440, 0}, {0, 0, -91}, {0, 0, 91}};
        for (int[] w : wrong) {
            Due.is("wrong check", x.check(w[0], w[1], w[2]), BAD);
        }
        Due.is("check 1", x.check(0, 0, -90), 1);
        Due.is("check 2", x.check(0, 1439, 90), 2);
        Due.is("another mill's", x.check(1, 5, 5), 1);
        Due.is("check 3, at a minute that has one", x.check(0, 0, 1), 3);
        Due.is("check 4", x.check(0, 0, 2), 4);
        Due.is("check 5", x.check(0, 7, 2), MillInspectors.FULL);
        Due.is("a wrong check 5", x.check(0, 7, 91), BAD);
        Due.is("another mill's second", x.check(1, 5, 5), 2);
    }

    private static void truth(MillInspectors x, int minute, int least, int greatest) {
        Due.is("truth of " + minute + ", least", x.truth(0, minute, 0), least);
        Due.is("truth of " + minute + ", greatest", x.truth(0, minute, 1), greatest);
    }

    private static void truths() {
        MillInspectors x = made();
        truth(x, 0, 0, 0);
        truth(x, 1440, 1440, 1440);
        x.check(0, 600, -90);
        truth(x, 599, 499, 519);
        truth(x, 600, 510, 510);
        truth(x, 601, 501, 521);
        truth(x, 0, -100, -80);
        x.check(0, 100, 90);
        truth(x, 99, 179, 199);
        truth(x, 100, 190, 190);
        truth(x, 101, 11, 191);
        truth(x, 599, 509, 689);
        truth(x, 600, 510, 510);
        truth(x, 1440, 1340, 1360);
        x.check(0, 600, 20);
        truth(x, 600, 620, 620);
        truth(x, 599, 619, 689);
        truth(x, 601, 611, 631);
        x.check(0, 300, -5);
        truth(x, 299, 294, 389);
        truth(x, 300, 295, 295);
        truth(x, 301, 296, 321);
        Due.is("the other mill's clock", x.truth(1, 300, 0), 300);
        int[][] wrong = {{2, 0, 0}, {-1, 0, 0}, {NONE, 0, 0}, {0, -1, 0}, {0, 1441, 0}, {0, 0, 2}, {0, 0, -1}};
        for (int[] w : wrong) {
            Due.is("wrong truth", x.truth(w[0], w[1], w[2]), -999);
        }
    }

    private static void works() {
        MillInspectors x = made();
        Due.is("no work", x.work(0, 3, 0), 0);
        x.check(0, 300, 10);
        x.line(0, 3, 0, 290, 320);
        Due.is("surely", x.work(0, 3, 0), 320 - 310);
        Due.is("at most", x.work(0, 3, 1), 340 - 290);
        x.line(0, 3, 0, 400, 415);
        Due.is("surely: 0 of a line at least", x.work(0, 3, 0), 10);
        Due.is("at most of both", x.work(0, 3, 1), 50 + 35);
        x.line(0, 3, 1, 500, 600);
        x.line(0, 3, NONE, 700, 730);
        x.line(0, 4, 1, 500, 600);
        x.line(1, 3, 1, 500, 600);
        x.line(0, 3, NONE, 710, 740);
        Due.is("surely, at both mills", x.work(0, 3, 0), 110);
        Due.is("at most, at both mills", x.work(0, 3, 1), 185);
        Due.is("schooled", x.work(0, 3, 2), 60);
        Due.is("work of no hand", x.work(2, 3, 0), BAD);
        Due.is("work on no day", x.work(0, 360, 0), BAD);
        Due.is("work, what 3", x.work(0, 3, 3), BAD);
        Due.is("work, what -1", x.work(0, 3, -1), BAD);
        MillInspectors y = made();
        y.check(0, 100, 90);
        y.check(0, 101, -90);
        y.line(0, 0, 0, 100, 101);
        Due.is("surely 0", y.work(0, 0, 0), 0);
        Due.is("at most 0, never below", y.work(0, 0, 1), 0);
    }

    private static void breach(MillInspectors x, String what, int hand, int of, int due) {
        Due.is("breach, " + what, x.breach(hand, 0, of), due);
    }

    private static void hoursBreached() {
        MillInspectors x = made();
        breach(x, "no line", 0, 0, 0);
        x.line(0, 0, NONE, 0, 1440);
        breach(x, "only at school", 0, 0, 0);
        x.line(0, 0, 0, 0, 900);
        breach(x, "just custom", 0, 0, 0);
        x.line(0, 0, 1, 1000, 1001);
        breach(x, "a minute above custom", 0, 0, 2);
        MillInspectors y = made();
        Due.accepts(y, "rule 1 on 0-0:hours 100;rule 2 on 0-0:if age<5 then hours 50;", 2);
        y.line(0, 0, 0, 0, 50);
        breach(y, "just what is maybe let", 0, 0, 0);
        y.line(0, 0, 0, 50, 51);
        breach(y, "more than is maybe let", 0, 0, 1);
        y.line(0, 0, 0, 51, 100);
        breach(y, "just what is let", 0, 0, 1);
        y.check(0, 0, 0);
        breach(y, "maybe less", 0, 0, 1);
        y.check(0, 1439, 0);
        y.line(0, 0, 0, 100, 101);
        breach(y, "more than is let", 0, 0, 2);
        MillInspectors z = made();
        Due.accepts(z, "rule 1 on 0-0:hours 100;", 1);
        z.check(0, 0, 0);
        z.line(0, 0, 0, 0, 105);
        breach(z, "95 to 115 of 100", 0, 0, 1);
    }

    private static void spansBreached() {
        MillInspectors x = made();
        Due.accepts(x, "rule 1 on 0-0:if !mill=1 then from 300 to 1200;rule 2 on 0-0:if age<5 then from 400 to 1100;", 2);
        x.line(1, 0, 1, 400, 1100);
        breach(x, "within, maybe too", 1, 1, 0);
        x.line(1, 0, NONE, 0, 1440);
        breach(x, "school is elsewhere", 1, 1, 0);
        x.line(1, 0, 0, 399, 1100);
        breach(x, "maybe too early", 1, 1, 1);
        x.line(0, 0, 0, 300, 1101);
        breach(x, "maybe too late", 0, 1, 1);
        x.line(0, 0, 0, 300, 1200);
        breach(x, "just within", 0, 1, 1);
        x.line(0, 0, 0, 300, 1201);
        breach(x, "too late", 0, 1, 2);
        x.line(1, 0, 0, 299, 400);
        breach(x, "too early", 1, 1, 2);
        MillInspectors y = made();
        Due.accepts(y, "rule 1 on 0-0:from 300 to 1200;", 1);
        y.check(0, 700, 0);
        y.line(0, 0, 0, 310, 1190);
        breach(y, "a clock that is wrong by 10 at most", 0, 1, 0);
        y.line(0, 0, 0, 309, 700);
        breach(y, "maybe by the clock, early", 0, 1, 1);
        y.line(1, 0, 0, 700, 1191);
        breach(y, "maybe by the clock, late", 1, 1, 1);
        y.line(0, 0, 0, 290, 700);
        breach(y, "not surely by the clock, early", 0, 1, 1);
        y.line(0, 0, 0, 289, 700);
        breach(y, "surely by the clock, early", 0, 1, 2);
        y.line(1, 0, 0, 700, 1210);
        breach(y, "not surely by the clock, late", 1, 1, 1);
        y.line(1, 0, 0, 700, 1211);
        breach(y, "surely by the clock, late", 1, 1, 2);
        MillInspectors z = made();
        z.check(0, 700, 0);
        z.line(0, 0, 0, 9, 100);
        breach(z, "without rules, maybe ahead of 0", 0, 1, 1);
        z.line(1, 0, 0, 700, 1430);
        breach(z, "without rules, at most 1440", 1, 1, 0);
    }

    private static void schoolBreached() {
        MillInspectors x = made();
        Due.accepts(x, "rule 1 on 0-0:school 100;rule 2 on 0-0:if age<5 then school 120;", 2);
        breach(x, "school without a line", 0, 2, 0);
        x.line(0, 0, NONE, 0, 1);
        breach(x, "school without a line at a mill", 0, 2, 0);
        x.line(0, 0, 0, 500, 600);
        breach(x, "school 1", 0, 2, 2);
        x.line(0, 0, NONE, 1, 99);
        breach(x, "school 99", 0, 2, 2);
        x.line(0, 0, NONE, 99, 100);
        breach(x, "school 100", 0, 2, 1);
        x.line(0, 0, NONE, 50, 70);
        breach(x, "school 120", 0, 2, 0);
    }

    private static void restBreached() {
        MillInspectors x = made();
        Due.accepts(x, "rule 1 on 0-0:if mill=0 then rest 100;rule 2 on 0-0:if age<5&mill=0 then rest 80;", 2);
        x.line(0, 0, 1, 0, 500);
        breach(x, "another mill's", 0, 3, 0);
        x.line(0, 0, 0, 600, 680);
        x.line(0, 0, 0, 680, 760);
        breach(x, "80 and 80", 0, 3, 0);
        x.line(0, 0, 0, 800, 881);
        breach(x, "81", 0, 3, 1);
        x.line(0, 0, 0, 900, 1000);
        breach(x, "100", 0, 3, 1);
        x.line(0, 0, 0, 900, 1001);
        breach(x, "101", 0, 3, 2);
        MillInspectors y = made();
        Due.accepts(y, "rule 1 on 0-0:rest 100;", 1);
        y.check(0, 700, 0);
        y.line(0, 0, 0, 0, 80);
        breach(y, "60 to 100", 0, 3, 0);
        y.line(0, 0, 0, 0, 81);
        breach(y, "61 to 101", 0, 3, 1);
        y.line(0, 0, 0, 0, 120);
        breach(y, "100 to 140", 0, 3, 1);
        y.line(0, 0, 0, 0, 121);
        breach(y, "101 to 141", 0, 3, 2);
    }

    private static void papersAndBars() {
        MillInspectors x = made();
        Due.accepts(x, "rule 1 on 0-0:if age<5 then paper,bar;", 1);
        breach(x, "paper without a line", 0, 4, 0);
        breach(x, "bar without a line", 0, 5, 0);
        x.line(0, 0, 0, 0, 1);
        breach(x, "paper maybe", 0, 4, 1);
        breach(x, "bar maybe", 0, 5, 1);
        x.paper(0, 2, 0, 0);
        breach(x, "a paper, not needed then", 0, 4, 0);
        breach(x, "bar maybe, with a paper", 0, 5, 1);
        Due.accepts(x, "rule 1 on 0-0:paper,bar;", 1);
        breach(x, "a paper", 0, 4, 0);
        breach(x, "bar", 0, 5, 2);
        x.line(1, 0, 0, 0, 1);
        breach(x, "no paper", 1, 4, 2);
        Due.is("breach of no hand", x.breach(2, 0, 0), BAD);
        Due.is("breach on no day", x.breach(0, -1, 0), BAD);
        Due.is("breach of 6", x.breach(0, 0, 6), BAD);
        Due.is("breach of -1", x.breach(0, 0, -1), BAD);
    }

    private static void breachesOverMills() {
        MillInspectors x = made();
        Due.accepts(x, "rule 1 on 0-0:if mill=1 then bar,hours 100;rule 2 on 0-0:if mill=0&age<5 then bar;", 2);
        x.line(0, 0, 0, 0, 101);
        breach(x, "bar maybe at the first mill", 0, 5, 1);
        breach(x, "hours of the first mill", 0, 0, 0);
        x.line(0, 0, 1, 200, 201);
        breach(x, "bar at the second mill", 0, 5, 2);
        breach(x, "hours of both, by the second mill's rule", 0, 0, 2);
    }

    private static void clashes() {
        MillInspectors x = made();
        Due.is("no line", x.clash(0, 0), 0);
        x.line(0, 0, 0, 100, 200);
        x.line(0, 0, 1, 200, 300);
        Due.is("one behind the other", x.clash(0, 0), 0);
        x.line(0, 0, NONE, 199, 201);
        Due.is("school with both", x.clash(0, 0), 2);
        x.line(0, 0, 0, 100, 200);
        Due.is("at one mill too", x.clash(0, 0), 4);
        x.line(0, 1, 0, 100, 200);
        x.line(1, 0, 0, 100, 200);
        Due.is("not with another day's or hand's", x.clash(0, 0), 4);
        x.check(0, 700, 0);
        Due.is("by a clock that may be wrong: 110 to 190", x.clash(0, 0), 2);
        Due.is("clash of no hand", x.clash(2, 0), BAD);
        Due.is("clash on no day", x.clash(0, 360), BAD);
    }

    private static void doubts() {
        MillInspectors x = made();
        Due.is("none: how many", x.doubted(0, 0, 0), 0);
        Due.is("none: the set", x.doubted(0, 0, 1), 0);
        x.line(1, 0, 0, 0, 1440);
        x.line(0, 1, 0, 0, 1440);
        x.line(0, 0, 0, 0, 10);
        x.line(0, 0, 0, 20, 40);
        x.line(0, 0, 0, 30, 60);
        Due.is("one of two", x.doubted(0, 0, 0), 1);
        Due.is("the first of the two", x.doubted(0, 0, 1), 2);
        x.line(0, 0, NONE, 50, 70);
        Due.is("the middle one", x.doubted(0, 0, 0), 1);
        Due.is("the middle one's place", x.doubted(0, 0, 1), 4);
        x.line(0, 0, 1, 65, 80);
        Due.is("a chain of four", x.doubted(0, 0, 0), 2);
        Due.is("its least set", x.doubted(0, 0, 1), 2 + 8);
        Due.is("doubted of no hand", x.doubted(2, 0, 0), BAD);
        Due.is("doubted on no day", x.doubted(0, 360, 0), BAD);
        Due.is("doubted, what 2", x.doubted(0, 0, 2), BAD);
        Due.is("doubted, what -1", x.doubted(0, 0, -1), BAD);
    }

    private static void tooManyToDoubt() {
        MillInspectors x = made();
        for (int k = 0; k < 12; k++) {
            x.line(0, 0, 0, 0, 10);
            x.line(1, 0, 0, 0, 10);
        }
        Due.is("all but one of twelve", x.doubted(0, 0, 0), 11);
        Due.is("the first eleven", x.doubted(0, 0, 1), 2047);
        x.line(0, 0, 0, 500, 510);
        Due.is("thirteen", x.doubted(0, 0, 0), MillInspectors.STATE);
        Due.is("thirteen, and a wrong number", x.doubted(0, 0, 2), BAD);
        Due.is("thirteen clash as before", x.clash(0, 0), 66);
        Due.is("the other hand's twelve", x.doubted(1, 0, 0), 11);
    }
}
