/** Edges of promises 8 to 10, and of the Terms 3 up to FAULT: the text, its tokens, its items. */
public final class TextEdgesTest {
    private static final int BAD = MillInspectors.BAD, FULL = MillInspectors.FULL, NONE = MillInspectors.NONE;
    private static final String RULE = "rule 1 on 0-0:";

    public static void main(String[] args) {
        typeBounds();
        lowestBytesHighestFirst();
        textIsFull();
        anyByteCanBeTyped();
        clearing();
        actEmptiesTheText();
        bytesBehindTheEnd();
        actsOneBehindTheOther();
        faultsOneBehindTheOther();
        faultChangesNothing();
        everyByteAlone();
        everyByteBehindADuty();
        everyByteBehindANumber();
        blanksTellNothing();
        greatestNumber();
        zerosAhead();
        words();
        numbersOfRules();
        days();
        sixteenRules();
        strikes();
        dutyNumbers();
        fromAndTo();
        fourDuties();
        eachDutyOnce();
        condNumbers();
        signsOfTests();
        tenOpen();
        thirtyTests();
        endsTooEarly();
        againstPlainTexts();
        Due.end("TextEdgesTest");
    }

    private static MillInspectors fresh() {
        return new MillInspectors();
    }

    private static String times(String text, int n) {
        return text.repeat(n);
    }

    /** Promise 8: "The lowest n (1 .. 8) bytes of v". */
    private static void typeBounds() {
        int had = Busy.TYPED.length();
        Edge.of("type, n 1 .. 8", Busy::made, (x, n) -> x.type(0x20L, n)).takes(1, had + 1).takes(8, had + 8)
            .refusesBeyond(BAD);
        Due.is("no byte of an empty text", fresh().type(0, 0), BAD);
        Due.is("nine bytes of an empty text", fresh().type(0, 9), BAD);
    }

    /** Promise 8: "the lowest n bytes of v, the highest of them first". */
    private static void lowestBytesHighestFirst() {
        String text = RULE + "bar,hours 1440;";
        for (int size = 1; size <= 8; size++) {
            for (long above : new long[] {0, -1, 0x3b3b3b3b3b3b3b3bL}) {
                MillInspectors x = fresh();
                for (int at = 0; at < text.length(); at += size) {
                    int n = Math.min(size, text.length() - at);
                    long v = above;
                    for (int k = 0; k < n; k++) {
                        v = v << 8 | text.charAt(at + k);
                    }
                    Due.is("typed by " + size, x.type(v, n), at + n);
                }
                Due.is("the act typed by " + size, x.act(), 1);
                Due.is("its duties", x.rule(0, 4), 2);
            }
        }
    }

    private static MillInspectors filled(int bytes) {
        MillInspectors x = Busy.made();
        x.clear();
        Due.type(x, times(" ", bytes - bytes % 8 - 8) + times("\n", 8 + bytes % 8));
        return x;
    }

    /** Terms 3: "a text (900 bytes at most)"; promise 8: FULL. */
    private static void textIsFull() {
        for (int n = 1; n <= 8; n++) {
            int its = n;
            Due.is(n + " bytes up to 900", filled(900 - n).type(0x20, n), 900);
            Edge.refused(n + " bytes up to 901", () -> filled(901 - its), FULL, x -> x.type(0x20, its));
            Edge.refused(n + " bytes behind 900", () -> filled(900), FULL, x -> x.type(0x20, its));
        }
        Edge.refused("no byte behind 900: BAD goes ahead of FULL", () -> filled(900), BAD, x -> x.type(0x20, 0));
        Edge.refused("nine bytes behind 900: BAD goes ahead of FULL", () -> filled(900), BAD, x -> x.type(0x20, 9));
        MillInspectors x = filled(893);
        Due.is("eight do not fit", x.type(0x20, 8), FULL);
        Due.is("seven fit still", x.type(0x20202020202020L, 7), 900);
        Due.is("900 blanks are an act", x.act(), 0);
        Due.is("the text has room again", x.type(0x20, 8), 8);
        String long900 = RULE + times(" ", 900 - RULE.length() - 4) + "bar;";
        Due.accepts(fresh(), long900, 1);
        Due.fault(fresh(), RULE + times(" ", 900 - RULE.length() - 3) + "bar^");
        Due.fault(fresh(), RULE + "bar;" + times("\n", 895 - RULE.length()) + "^.");
    }

    private static void anyByteCanBeTyped() {
        MillInspectors x = fresh();
        for (int b = 0; b < 256; b++) {
            Due.is("byte " + b, x.type(b, 1), b + 1);
        }
        Due.is("all bytes are there", x.clear(), 256);
    }

    /** Promise 9: "THE TEXT is empty: how many bytes it had." */
    private static void clearing() {
        Due.is("clear of nothing", fresh().clear(), 0);
        Due.is("clear of 900", filled(900).clear(), 900);
        MillInspectors x = fresh();
        x.type(0x41, 1);
        Due.is("clear of one", x.clear(), 1);
        Due.is("clear of nothing left", x.clear(), 0);
        Due.is("typed behind a clear", x.type(0x3b, 1), 1);
        Due.is("what was cleared is not read", x.act(), -10);
        x.clear();
        Due.accepts(x, RULE + "bar;", 1);
        Due.type(x, "rule 2 on 0-0:bar;");
        x.clear();
        Due.is("the act stays", x.rule(0, 0), 1);
        Due.is("its rules stay", x.count(2), 1);
    }

    /** Promise 10: "THE TEXT becomes the ACT, and is empty then: how many RULES." */
    private static void actEmptiesTheText() {
        MillInspectors x = Busy.made();
        Due.is("a byte that was missing", x.type(0x3b, 1), Busy.TYPED.length() + 1);
        Due.is("an act of one rule instead of three", x.act(), 1);
        Due.is("the text is empty", x.count(7), 0);
        Due.is("nothing of the old act", x.rule(1, 0), BAD);
        Due.is("the old strike is gone", x.rule(0, 3), NONE);
        Due.is("the old condition is gone", x.binds(0, 0, 0, 0), 2);
        Due.is("the old duties are gone", x.duty(0, 0, 0, 1, 0), 0);
        Due.is("the empty text is an act without rules", x.act(), 0);
        Due.is("no rule is left", x.rule(0, 0), BAD);
        Due.is("nor a duty", x.duty(0, 0, 0, 6, 0), 0);
    }

    /** What was typed and cleared behind the end of the text is not read with it. */
    private static void bytesBehindTheEnd() {
        MillInspectors x = fresh();
        Due.accepts(x, RULE + "hours 1440,bar;", 1);
        Due.fault(x, RULE + "hours 14^");
        Due.accepts(x, RULE + "hours 1440,bar;", 1);
        Due.fault(x, RULE + "^ho");
        Due.accepts(x, RULE + "hours 1440,bar;", 1);
        Due.fault(x, RULE + "hours 1440^");
        String long900 = RULE + times(" ", 890 - RULE.length());
        Due.fault(fresh(), long900 + "hours 1440^");
        Due.fault(fresh(), long900 + "hours ^1441");
        Due.fault(fresh(), long900 + "hours 144^A");
        Due.fault(fresh(), long900 + "paper,^bars");
        Due.fault(fresh(), long900 + "paper, bar^");
    }

    /** Each act is read anew: nothing of the one ahead of it, nor of the one ahead of that, is left in it. */
    private static void actsOneBehindTheOther() {
        MillInspectors x = fresh();
        x.mill(0, 1, 1);
        x.hand(0, 0);
        String[] texts = {"rule 1 on 0-9:if paper&mill=0 then hours 1,school 2,rest 3,bar;strike 1 on 5;", "rule 2 on 0-0:bar;",
            "rule 3 on 0-0:from 1 to 2,paper;", "rule 4 on 0-0:if !(paper|mill=0) then hours 9;", ""};
        int[][] due = {{1, 5, 4, 0, 900}, {2, NONE, 1, 2, 900}, {3, NONE, 2, 2, 900}, {4, NONE, 1, 0, 900}};
        for (int turn = 0; turn < 15; turn++) {
            int k = turn * 2 % 5;
            Due.accepts(x, texts[k], k < 4 ? 1 : 0);
            if (k < 4) {
                Due.is("its number", x.rule(0, 0), due[k][0]);
                Due.is("its strike", x.rule(0, 3), due[k][1]);
                Due.is("its duties", x.rule(0, 4), due[k][2]);
                Due.is("how it binds", x.binds(0, 0, 0, 0), due[k][3]);
                Due.is("its hours", x.duty(0, 0, 0, 0, 1), due[k][4]);
            }
            Due.is("no second rule", x.rule(1, 0), BAD);
        }
    }

    /** A faulty text may be read again and again; the next good one is read as if none had been. */
    private static void faultsOneBehindTheOther() {
        MillInspectors x = fresh();
        x.mill(0, 1, 1);
        x.hand(0, 0);
        String tests = times("!mill=1&", 29) + "!mill=1";
        String text = "rule 1 on 0-0:if " + tests + " then bar;rule 2 on 0-0:if " + tests + " then bar;rule 3 on 0-0:if " + tests
            + " then bar;";
        Due.type(x, text);
        Due.type(x, "strike");
        for (int turn = 0; turn < 9; turn++) {
            Due.is("the fault, turn " + turn, x.act(), -10 - text.length() - 6);
        }
        Due.type(x, " 3 on 0;");
        Due.is("then it is good", x.act(), 3);
        Due.is("the first binds", x.binds(0, 0, 0, 0), 2);
        Due.is("the second binds", x.binds(1, 0, 0, 0), 2);
        Due.is("the third is struck", x.binds(2, 0, 0, 0), 0);
        String[] broken = {"!(!(mill=1|paper&!^", "mill=1&^", "mill=1|(^", "((((((((((^(", "!^&", "paper|paper|paper^=1"};
        for (String cond : broken) {
            Due.fault(x, RULE + "if " + cond);
            Due.accepts(x, RULE + "if mill=0 then bar;", 1);
            Due.is("behind " + cond, x.binds(0, 0, 0, 0), 2);
            Due.fault(x, RULE + "if " + cond);
            Due.accepts(x, RULE + "if mill=1 then bar;", 1);
            Due.is("behind " + cond + " too", x.binds(0, 0, 0, 0), 0);
        }
    }

    /** Promise 10: "-10 less FAULT: nothing changes." */
    private static void faultChangesNothing() {
        int had = Busy.TYPED.length();
        Edge.refused("a text that ends too early", Busy::made, -10 - had, MillInspectors::act);
        String[] texts = {";rule 2 on 5-6:if paper then school 9;strike 1 on 0;^x", ";strike 1 on 0^", ";strike 1 on ^360;",
            ";rule 2 on 0-0:if !(paper|age<5 ^then", ",hours 9,rest 9,paper,^school 9;", ";rule ^1 on 0-0:bar;"};
        for (String marked : texts) {
            int place = marked.indexOf('^');
            String more = marked.substring(0, place) + marked.substring(place + 1);
            Edge.refused("a fault: " + marked, () -> {
                MillInspectors x = Busy.made();
                Due.type(x, more);
                return x;
            }, -10 - had - place, MillInspectors::act);
        }
    }

    /** Terms 3, FAULT: "of a byte that begins none .. that TOKEN's"; no single byte but a blank is an act. */
    private static void everyByteAlone() {
        for (int b = 0; b < 256; b++) {
            MillInspectors x = fresh();
            x.type(b, 1);
            boolean blank = b == 32 || b == 10;
            Due.is("byte " + b + " alone", x.act(), blank ? 0 : -10);
            Due.is("the text behind it", x.count(7), blank ? 0 : 1);
            x = fresh();
            x.type(0x2000L | b, 2);
            Due.is("byte " + b + " behind a blank", x.act(), blank ? 0 : -11);
        }
    }

    private static void everyByteBehindADuty() {
        String text = RULE + "bar";
        for (int b = 0; b < 256; b++) {
            MillInspectors x = fresh();
            Due.type(x, text);
            x.type(b, 1);
            int due = b == ';' ? 1 : -10 - text.length();
            if (b == ' ' || b == '\n' || b == ',') {
                due = -10 - text.length() - 1;
            } else if (b >= 'a' && b <= 'z') {
                due = -10 - RULE.length();
            }
            Due.is("byte " + b + " behind a duty", x.act(), due);
        }
    }

    private static void everyByteBehindANumber() {
        String text = RULE + "hours 14";
        for (int b = 0; b < 256; b++) {
            MillInspectors x = fresh();
            Due.type(x, text);
            x.type(b, 1);
            int due = b == ';' ? 1 : -10 - text.length();
            if (b == ' ' || b == '\n' || b == ',' || b >= '0' && b <= '9') {
                due = -10 - text.length() - 1;
            }
            Due.is("byte " + b + " behind a number", x.act(), due);
        }
    }

    /** Terms 3: "blanks (32, 10) part them and tell nothing else." */
    private static void blanksTellNothing() {
        String[] tokens = {"rule", "1", "on", "0", "-", "9", ":", "if", "!", "(", "age", "<", "9", "|", "paper", ")", "&",
            "mill", "=", "0", "then", "hours", "9", ",", "from", "1", "to", "2", ";", "strike", "1", "on", "5", ";"};
        for (String blank : new String[] {" ", "\n", " \n \n\n  "}) {
            Due.accepts(fresh(), blank + String.join(blank, tokens) + blank, 1);
        }
        Due.accepts(fresh(), String.join("", tokens).replace("thenhours", "then hours"), 1);
        Due.fault(fresh(), RULE + "if paper ^thenbar;");
        Due.fault(fresh(), "^ru le 1 on 0-0:bar;");
        Due.fault(fresh(), "rule 1 ^1 on 0-0:bar;");
        Due.fault(fresh(), "rule 1 on 0-0 ^0:bar;");
        for (char other : new char[] {0, 9, 11, 12, 13, 31, 33, 127, 160, 255}) {
            Due.fault(fresh(), "rule 1^" + other + "on 0-0:bar;");
        }
    }

    /** Terms 3: "NUMBERS (9999 at most ..)"; a wrap of 32 or 64 bits does not make it less. */
    private static void greatestNumber() {
        Due.accepts(fresh(), RULE + "if age<9999 then bar;", 1);
        String[] beyond = {"10000", "99999", "32768", "65536", "65541", "2147483647", "2147483648", "4294967296", "4294967301",
            "9223372036854775807", "18446744073709551616", "18446744073709551621", times("9", 500), "1" + times("0", 64)};
        for (String n : beyond) {
            Due.fault(fresh(), RULE + "if age<^" + n + " then bar;");
            Due.fault(fresh(), "rule ^" + n + " on 0-0:bar;");
            Due.fault(fresh(), RULE + "hours ^" + n + ";");
            Due.fault(fresh(), RULE + "bar;strike ^" + n + " on 0;");
        }
        Due.fault(fresh(), "^10000");
        Due.fault(fresh(), "rule 1 ^10000");
    }

    /** Terms 3: "no 0 ahead of others". */
    private static void zerosAhead() {
        Due.accepts(fresh(), RULE + "hours 0;", 1);
        for (String n : new String[] {"00", "01", "000", "09", "0359", "00000000001"}) {
            Due.fault(fresh(), RULE + "hours ^" + n + ";");
            Due.fault(fresh(), RULE + "if age=^" + n + " then bar;");
            Due.fault(fresh(), "rule ^" + n + " on 0-0:bar;");
            Due.fault(fresh(), "rule 1 on ^" + n + "-359:bar;");
            Due.fault(fresh(), RULE + "bar;strike 1 on ^" + n + ";");
        }
        Due.accepts(fresh(), "rule 10 on 0-100:hours 100;", 1);
        Due.fault(fresh(), "rule 10 on 0-10:bar;rule 1 on 0-0:bar;strike ^01 on 0;");
    }

    /** Terms 3: "WORDS of letters a .. z"; FAULT: "of a WORD that is none of these". */
    private static void words() {
        String[] all = {"rule", "on", "if", "then", "strike", "hours", "from", "to", "school", "rest", "paper", "bar", "age",
            "kind", "trade", "mill"};
        for (String word : all) {
            if (!word.equals("rule") && !word.equals("strike")) {
                Due.fault(fresh(), "^" + word + " 1 on 0-0:bar;");
            }
            if (!word.equals("on")) {
                Due.fault(fresh(), "rule 1 ^" + word + " 0-0:bar;");
            }
            String upper = word.substring(0, 1).toUpperCase() + word.substring(1);
            Due.fault(fresh(), "^" + upper);
        }
        String text = "rule 1 on 0-0:if age<1&kind=1&trade=1&mill=1&paper then hours 1,from 1 to 2,school 1,rest 1;"
            + "rule 2 on 0-0:paper,bar;strike 2 on 1;";
        Due.accepts(fresh(), text, 2);
        java.util.regex.Matcher word = java.util.regex.Pattern.compile("[a-z]+").matcher(text);
        while (word.find()) {
            String ahead = text.substring(0, word.start());
            String behind = text.substring(word.end());
            Due.fault(fresh(), ahead + "^" + word.group() + "s" + behind);
            Due.fault(fresh(), ahead + "^x" + word.group() + behind);
            Due.fault(fresh(), ahead + "^" + word.group().substring(1) + behind);
            Due.fault(fresh(), ahead + "^" + word.group().substring(0, word.group().length() - 1) + behind);
            Due.fault(fresh(), ahead + "^" + word.group().toUpperCase() + behind);
            Due.fault(fresh(), ahead + "^7" + behind);
            Due.fault(fresh(), ahead + "^;" + behind);
        }
    }

    /** Every number of a slot is tried, and those that are not from .. to are the FAULT. */
    private static void slot(String ahead, String behind, int from, int to) {
        for (int n = 0; n <= 10001; n++) {
            if (n == 1600) {
                n = 9998;
            }
            if (n >= from && n <= to) {
                Due.holds("taken: " + ahead + n + behind, Due.act(fresh(), ahead + n + behind) > 0);
            } else {
                Due.fault(fresh(), ahead + "^" + n + behind);
            }
        }
    }

    /** Terms 3: "The NUMBER of a RULE 1 .. 99, each once". */
    private static void numbersOfRules() {
        slot("rule ", " on 0-0:bar;", 1, 99);
        for (int n : new int[] {1, 9, 10, 50, 99}) {
            Due.fault(fresh(), "rule " + n + " on 0-0:bar;rule ^" + n + " on 1-1:paper;");
            Due.fault(fresh(), "rule " + n + " on 0-0:bar;rule 7 on 0-0:bar;rule ^" + n);
            Due.fault(fresh(), "rule " + n + " on 0-0:bar;strike " + n + " on 0;rule ^" + n + " on 1-1:paper;");
        }
        MillInspectors x = fresh();
        Due.accepts(x, "rule 3 on 0-0:bar;", 1);
        Due.accepts(x, "rule 3 on 0-0:bar;", 1);
    }

    /** Terms 1: "DAYS are 0 .. 359"; Terms 3: "the second not before the first". */
    private static void days() {
        slot("rule 1 on ", "-359:bar;", 0, 359);
        slot("rule 1 on 0-", ":bar;", 0, 359);
        slot("rule 1 on 200-", ":bar;", 200, 359);
        slot("rule 1 on 359-", ":bar;", 359, 359);
        slot("rule 1 on 0-0:bar;strike 1 on ", ";", 0, 359);
    }

    private static String rules(int n) {
        StringBuilder text = new StringBuilder();
        for (int k = 1; k <= n; k++) {
            text.append("rule ").append(k).append(" on 0-0:bar;");
        }
        return text.toString();
    }

    /** Terms 3: "16 RULES at most"; FAULT: "a 17th RULE's \"rule\"". */
    private static void sixteenRules() {
        Due.accepts(fresh(), rules(15), 15);
        MillInspectors x = fresh();
        Due.accepts(x, rules(16), 16);
        Due.is("the 16th rule", x.rule(15, 0), 16);
        Due.is("no 17th rule", x.rule(16, 0), BAD);
        Due.fault(fresh(), rules(16) + "^rule 17 on 0-0:bar;");
        Due.fault(fresh(), rules(16) + " \n^rule 1 on 0-0:bar;");
        Due.fault(fresh(), rules(16) + "^rule 100");
        Due.fault(fresh(), rules(16) + "^rule");
        Due.fault(fresh(), rules(16) + "^bar");
        Due.accepts(fresh(), rules(16) + "strike 16 on 0;strike 1 on 0;", 16);
        Due.fault(fresh(), rules(16) + "strike 16 on 0;^rule 17 on 0-0:bar;");
        Due.fault(fresh(), rules(16) + "strike ^17 on 0;");
        Due.accepts(x, "rule 99 on 0-0:bar;", 1);
        Due.accepts(x, rules(16), 16);
    }

    private static void strike(String strikes, int due) {
        MillInspectors x = fresh();
        Due.accepts(x, "rule 5 on 10-20:bar;rule 6 on 0-0:bar;" + strikes, 2);
        Due.is("struck by " + strikes, x.rule(0, 3), due);
        Due.is("the other is not struck by " + strikes, x.rule(1, 3), NONE);
    }

    /** Terms 3: "a RULE told ahead is STRUCK from a DAY on .. more than once: the first DAY counts". */
    private static void strikes() {
        strike("", NONE);
        strike("strike 5 on 0;", 0);
        strike("strike 5 on 359;", 359);
        strike("strike 5 on 15;strike 5 on 15;", 15);
        strike("strike 5 on 15;strike 5 on 14;", 14);
        strike("strike 5 on 14;strike 5 on 15;", 14);
        strike("strike 5 on 359;strike 5 on 0;strike 5 on 1;", 0);
        Due.fault(fresh(), "strike ^5 on 0;rule 5 on 0-0:bar;");
        Due.fault(fresh(), "rule 5 on 0-0:bar;strike ^6 on 0;rule 6 on 0-0:bar;");
        for (int n : new int[] {0, 1, 4, 6, 50, 55, 99, 100, 9999}) {
            Due.fault(fresh(), "rule 5 on 0-0:bar;strike ^" + n + " on 0;");
        }
        MillInspectors x = fresh();
        Due.accepts(x, "rule 5 on 0-0:bar;", 1);
        Due.fault(x, "strike ^5 on 0;");
        Due.fault(fresh(), "rule 5 on 0-0:bar,^strike 5 on 0;");
    }

    /** Terms 3: "hours" 0 .. 1440, "school" 0 .. 600, "rest" 1 .. 1440. */
    private static void dutyNumbers() {
        slot(RULE + "hours ", ";", 0, 1440);
        slot(RULE + "school ", ";", 0, 600);
        slot(RULE + "rest ", ";", 1, 1440);
        slot(RULE + "bar,rest ", ",paper;", 1, 1440);
        for (String word : new String[] {"hours", "school", "rest"}) {
            Due.fault(fresh(), RULE + word + " ^-1;");
            Due.fault(fresh(), RULE + word + "^;");
            Due.fault(fresh(), RULE + word + " ^bar;");
            Due.fault(fresh(), RULE + word + "^");
        }
        Due.fault(fresh(), RULE + "bar ^1;");
        Due.fault(fresh(), RULE + "paper ^1;");
    }

    /** Terms 3: "from" NUMBER "to" NUMBER "(MINUTES, the second above the first ..)"; MINUTES 0 .. 1439. */
    private static void fromAndTo() {
        slot(RULE + "from 0 to ", ";", 1, 1439);
        slot(RULE + "from 700 to ", ";", 701, 1439);
        slot(RULE + "from 1438 to ", ";", 1439, 1439);
        slot(RULE + "bar,from 9 to ", ",paper;", 10, 1439);
        for (int from = 0; from <= 1438; from++) {
            Due.accepts(fresh(), RULE + "from " + from + " to " + (from + 1) + ";", 1);
            Due.fault(fresh(), RULE + "from " + from + " to ^" + from + ";");
        }
        for (int to : new int[] {0, 1438, 1439, 1440, 1441, 9999}) {
            Due.fault(fresh(), RULE + "from 1439 to ^" + to + ";");
            Due.fault(fresh(), RULE + "from ^1440 to " + to + ";");
        }
        Due.fault(fresh(), RULE + "from ^9999 to 9999;");
        Due.fault(fresh(), RULE + "from ^to 9;");
        Due.fault(fresh(), RULE + "from 9 ^10;");
        Due.fault(fresh(), RULE + "from 9 to ^;");
    }

    private static final String[] DUTIES = {"hours 1", "from 1 to 2", "school 1", "rest 1", "paper", "bar"};

    /** Terms 3: "DUTIES, four at most, with , between"; FAULT: "a fifth DUTY". */
    private static void fourDuties() {
        for (int start = 0; start < 6; start++) {
            StringBuilder text = new StringBuilder(RULE + DUTIES[start]);
            for (int many = 1; many <= 4; many++) {
                MillInspectors x = fresh();
                Due.accepts(x, text + ";", 1);
                Due.is("how many duties", x.rule(0, 4), many);
                Due.fault(fresh(), text + ",^;");
                Due.fault(fresh(), text + ",^,");
                Due.fault(fresh(), text + ",^");
                Due.fault(fresh(), text + "^");
                Due.fault(fresh(), text + " ^" + DUTIES[(start + many) % 6] + ";");
                if (many < 4) {
                    text.append(',').append(DUTIES[(start + many) % 6]);
                }
            }
            Due.fault(fresh(), text + ",^" + DUTIES[(start + 4) % 6] + ";");
            Due.fault(fresh(), text + ", \n^" + DUTIES[(start + 5) % 6] + ";");
            Due.fault(fresh(), text + ",^" + DUTIES[start] + ";");
        }
        Due.fault(fresh(), RULE + "^,bar;");
        Due.fault(fresh(), RULE + "^;");
    }

    /** Terms 3: "Each once in a RULE"; FAULT: "a DUTY that is there". */
    private static void eachDutyOnce() {
        for (String duty : DUTIES) {
            Due.fault(fresh(), RULE + duty + ",^" + duty + ";");
            Due.accepts(fresh(), RULE + duty + ";rule 2 on 0-0:" + duty + ";", 2);
            for (String other : DUTIES) {
                if (!other.equals(duty)) {
                    Due.fault(fresh(), RULE + duty + "," + other + ",^" + duty + ";");
                }
            }
        }
        Due.fault(fresh(), RULE + "from 1 to 2,^to 3;");
        Due.accepts(fresh(), RULE + "if paper then paper;", 1);
    }

    private static void condNumbers() {
        for (String test : new String[] {"age<", "age>", "age=", "kind=", "trade=", "mill="}) {
            slot(RULE + "if " + test, " then bar;", 0, 9999);
        }
    }

    /** Terms 3: "age" S NUMBER, S one of < > =; the others with = alone; "paper" alone. */
    private static void signsOfTests() {
        for (char sign : "<>=:;()&|!,-".toCharArray()) {
            boolean compares = "<>=".indexOf(sign) >= 0;
            if (compares) {
                Due.accepts(fresh(), RULE + "if age" + sign + "1 then bar;", 1);
            } else {
                Due.fault(fresh(), RULE + "if age^" + sign + "1 then bar;");
            }
            Due.fault(fresh(), RULE + "if age<^" + sign + "1 then bar;");
            for (String word : new String[] {"kind", "trade", "mill"}) {
                if (sign != '=') {
                    Due.fault(fresh(), RULE + "if " + word + "^" + sign + "1 then bar;");
                }
                Due.fault(fresh(), RULE + "if " + word + "=^" + sign + "1 then bar;");
            }
            if (sign != '&' && sign != '|') {
                Due.fault(fresh(), RULE + "if paper^" + sign + " then bar;");
            }
            if (sign != '!' && sign != '(') {
                Due.fault(fresh(), RULE + "if ^" + sign + "paper then bar;");
            }
        }
    }

    /** Terms 3: "Ten ( at most are open at a time". */
    private static void tenOpen() {
        for (int open = 0; open <= 10; open++) {
            String in = times("(", open) + "paper" + times(")", open);
            Due.accepts(fresh(), RULE + "if " + in + " then bar;", 1);
            Due.accepts(fresh(), RULE + "if !" + in + "&" + in + "|!!" + in + " then bar;", 1);
            Due.fault(fresh(), RULE + "if " + in + "^) then bar;");
            if (open > 0) {
                Due.fault(fresh(), RULE + "if " + in.substring(0, in.length() - 1) + " ^then bar;");
            }
        }
        String ten = times("(", 10);
        Due.fault(fresh(), RULE + "if " + ten + "^(paper");
        Due.fault(fresh(), RULE + "if " + ten + "!!^(paper");
        Due.fault(fresh(), RULE + "if " + ten + "paper&^(paper");
        Due.accepts(fresh(), RULE + "if " + ten + "paper)&(paper" + times(")", 10) + " then bar;", 1);
        Due.fault(fresh(), RULE + "if " + ten + "paper)&(^(paper");
        Due.accepts(fresh(), RULE + "if " + times("(paper)&", 29) + "(paper) then bar;", 1);
        String all = ten + "paper" + times(")", 10);
        Due.accepts(fresh(), RULE + "if " + all + " then bar;rule 2 on 0-0:if " + all + " then bar;", 2);
    }

    /** Terms 3: "30 of \"age\" .. \"paper\" at most in a RULE"; FAULT: "the 31st, too". */
    private static void thirtyTests() {
        String[] tests = {"age<5", "kind=1", "trade=1", "mill=1", "paper"};
        for (String test : tests) {
            for (String sign : new String[] {"&", "|", "&!"}) {
                String thirty = times(test + sign, 29) + test;
                Due.accepts(fresh(), RULE + "if " + thirty + " then bar;", 1);
                Due.fault(fresh(), RULE + "if " + thirty + sign + "^" + test + " then bar;");
            }
        }
        for (String last : tests) {
            Due.fault(fresh(), RULE + "if " + times("paper|", 30) + "^" + last + " then bar;");
            Due.fault(fresh(), RULE + "if " + times("paper|", 30) + "(!^" + last + ") then bar;");
        }
        String thirty = times("paper|", 29) + "paper";
        Due.accepts(fresh(), RULE + "if " + thirty + " then paper;", 1);
        Due.accepts(fresh(), RULE + "if " + thirty + " then bar;rule 2 on 0-0:if " + thirty + " then bar;", 2);
        Due.fault(fresh(), RULE + "if " + thirty + " then bar;rule 2 on 0-0:if " + thirty + "|^paper then bar;");
        Due.fault(fresh(), RULE + "if " + thirty + "|^bar");
    }

    /** Terms 3, FAULT: "the text's length, if it ends too early". */
    private static void endsTooEarly() {
        String[] tokens = {"rule", "1", "on", "0", "-", "9", ":", "if", "!", "(", "age", "<", "9", "|", "paper", ")", "&",
            "kind", "=", "0", "&", "trade", "=", "1", "|", "mill", "=", "2", "then", "hours", "9", ",", "from", "1", "to",
            "2", ",", "school", "3", ",", "rest", "4", ";", "strike", "1", "on", "5", ";", "rule", "2", "on", "0", "-", "0",
            ":", "paper", ",", "bar", ";"};
        StringBuilder text = new StringBuilder();
        int rules = 0;
        boolean whole = true;
        for (String token : tokens) {
            for (String blank : new String[] {"", " ", "\n\n"}) {
                if (whole) {
                    Due.accepts(fresh(), text + blank, rules);
                } else {
                    Due.fault(fresh(), text + blank + "^");
                }
            }
            text.append(' ').append(token);
            whole = token.equals(";");
            rules += token.equals("rule") ? 1 : 0;
        }
        Due.accepts(fresh(), text.toString(), 2);
    }

    /** Every text that differs from a good one in one byte, or lacks its end, as PlainInspectors reads it. */
    private static void againstPlainTexts() {
        String good = "rule 12 on 3-40:if !(age<9|paper)&kind=1 then hours 90,from 5 to 16;strike 12 on 7;rule 3 on 0-0:bar,paper;";
        String bytes = "az019:;()&|!<>=,- \n\t\u0000\u00ff";
        for (int at = 0; at <= good.length(); at++) {
            samePlain(good.substring(0, at));
            for (char b : bytes.toCharArray()) {
                samePlain(good.substring(0, at) + b + good.substring(at));
                if (at < good.length()) {
                    samePlain(good.substring(0, at) + b + good.substring(at + 1));
                }
            }
        }
    }

    private static void samePlain(String text) {
        MillInspectors x = fresh();
        PlainInspectors y = new PlainInspectors();
        for (char b : text.toCharArray()) {
            x.type(b, 1);
            y.type(b, 1);
        }
        Due.is("act() of " + text, x.act(), y.act());
        Due.is("what is left of " + text, x.clear(), y.clear());
    }
}
