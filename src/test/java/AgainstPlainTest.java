import java.util.Random;

/**
 * Long runs of calls, good and wrong ones, on MillInspectors and on PlainInspectors side by side.
 * The seeds are fixed, so that every run of the test makes the same calls.
 */
public final class AgainstPlainTest {
    /** A run goes beyond CALLS by the bytes of a text at most, and stays within the 512 calls of an object. */
    private static final int RUNS = 900, CALLS = 385;
    private static final int[] WILD = {Integer.MIN_VALUE, Integer.MAX_VALUE, -1, -9, -10, 0, 1, 7, 25, 360, 1024, 100000};
    private static final String[] PARTS = {"rule ", "strike ", "on ", "if ", "then ", "hours ", "from ", "to ", "school ",
        "rest ", "paper ", "bar ", "age", "kind", "trade", "mill", ":", ";", "(", ")", "&", "|", "!", "<", ">", "=", ",",
        "-", " ", "\n", "0", "1", "7", "12", "99", "100", "359", "360", "600", "1440", "9999", "10000", "01", "x", "\t",
        "\u00e9", "A", "rules", "\u0000"};

    private final Random random;
    private final MillInspectors x = new MillInspectors();
    private final PlainInspectors y = new PlainInspectors();
    private final int seed;
    private int made;

    private AgainstPlainTest(int seed) {
        this.seed = seed;
        this.random = new Random(seed);
    }

    public static void main(String[] args) {
        for (int seed = 1; seed <= RUNS; seed++) {
            new AgainstPlainTest(seed).run();
        }
        Due.end("AgainstPlainTest");
    }

    private void same(String call, long got, long want) {
        made++;
        Due.is("seed " + seed + ", call " + made + ": " + call, got, want);
    }

    /** Mostly from .. to, sometimes an edge beyond it, seldom anything. */
    private int any(int from, int to) {
        int dice = random.nextInt(120);
        if (dice == 0) return WILD[random.nextInt(WILD.length)];
        if (dice == 1) return from - 1;
        if (dice == 2) return to + 1;
        if (dice < 8) return from;
        if (dice < 13) return to;
        return from + random.nextInt(Math.max(1, to - from + 1));
    }

    private int anyHand() {
        return any(0, Math.min(2, Math.max(0, y.count(1) - 1)));
    }

    private int anyMill() {
        return any(0, Math.max(0, y.count(0) - 1));
    }

    private int anyDay() {
        return any(0, 1);
    }

    private int anyWhere() {
        return random.nextInt(4) == 0 ? MillInspectors.NONE : anyMill();
    }

    private void run() {
        for (int k = 0; k < 3; k++) {
            hand();
            mill();
        }
        while (made < CALLS) {
            int dice = random.nextInt(100);
            if (dice < 4) {
                text();
            } else if (dice < 30) {
                tell();
            } else if (dice < 90) {
                ask();
            } else {
                askDearly();
            }
        }
        for (int what = 0; what < 8; what++) {
            Due.is("seed " + seed + ", count " + what, x.count(what), y.count(what));
        }
        Due.is("seed " + seed + ", trace", x.trace(), y.trace());
        Due.holds("seed " + seed + ": 512 calls at most, with the last nine", made + 9 <= 512);
    }

    private void hand() {
        int kind = any(0, 5), grade = any(0, 3);
        same("hand(" + kind + ", " + grade + ")", x.hand(kind, grade), y.hand(kind, grade));
    }

    private void mill() {
        int trade = any(0, 3), owner = any(1, 9), town = any(1, 8);
        same("mill(" + trade + ", " + owner + ", " + town + ")", x.mill(trade, owner, town), y.mill(trade, owner, town));
    }

    private void type(String text) {
        for (int at = 0; at < text.length(); at += 8) {
            int n = Math.min(8, text.length() - at);
            long v = random.nextLong();
            for (int k = 0; k < n; k++) v = v << 8 | text.charAt(at + k);
            same("type(" + v + ", " + n + ")", x.type(v, n), y.type(v, n));
        }
    }

    private String number(int from, int to) {
        return "" + (random.nextInt(60) == 0 ? any(from, to) : from + random.nextInt(to - from + 1));
    }

    private String cond(int deep) {
        int dice = random.nextInt(deep > 4 ? 6 : 11);
        if (dice == 0) return "paper";
        if (dice == 1) return "kind=" + number(0, 5);
        if (dice == 2) return "mill = " + number(0, 2);
        if (dice == 3) return "trade=" + number(0, 3);
        if (dice < 6) return "age" + "<>=".charAt(random.nextInt(3)) + number(0, 31);
        if (dice == 6) return "!" + cond(deep + 1);
        if (dice == 7) return "(" + cond(deep + 1) + ")";
        return cond(deep + 1) + "&|".charAt(random.nextInt(2)) + cond(deep + 1);
    }

    private String duty() {
        switch (random.nextInt(6)) {
            case 0: return "hours " + number(0, 1440);
            case 1: return "from " + number(0, 700) + " to " + number(600, 1439);
            case 2: return "school " + number(0, 600);
            case 3: return "rest " + number(1, 1440);
            case 4: return "paper";
            default: return "bar";
        }
    }

    private String act() {
        StringBuilder text = new StringBuilder();
        int items = random.nextInt(7);
        for (int k = 0; k < items && text.length() < 700; k++) {
            if (k > 0 && random.nextInt(4) == 0) {
                text.append("strike ").append(number(1, 9)).append(" on ").append(number(0, 3)).append(";\n");
                continue;
            }
            text.append("rule ").append(random.nextInt(15) == 0 ? number(1, 99) : "" + (k + 1));
            text.append(" on ").append(number(0, 1)).append("-").append(number(1, 359)).append(": ");
            if (random.nextInt(3) > 0) text.append("if ").append(cond(0)).append(" then ");
            text.append(duty());
            for (int d = random.nextInt(5); d > 1; d--) text.append(",").append(duty());
            text.append(";");
        }
        return text.toString();
    }

    private String spoilt(String text) {
        StringBuilder then = new StringBuilder(text);
        for (int k = random.nextInt(3); k > 0; k--) {
            int at = random.nextInt(then.length() + 1);
            int dice = random.nextInt(3);
            if (dice == 0) then.insert(at, PARTS[random.nextInt(PARTS.length)]);
            if (dice == 1 && at < then.length()) then.deleteCharAt(at);
            if (dice == 2) then.setLength(at);
        }
        return then.toString();
    }

    private void text() {
        int dice = random.nextInt(10);
        if (dice < 5) {
            type(act());
        } else if (dice < 9) {
            type(spoilt(act()));
        } else {
            for (int k = random.nextInt(12); k > 0; k--) type(PARTS[random.nextInt(PARTS.length)]);
        }
        if (random.nextInt(30) > 0) same("act()", x.act(), y.act());
        if (random.nextInt(4) > 0) same("clear()", x.clear(), y.clear());
    }

    private void tell() {
        int h = anyHand(), m = anyMill(), d = anyDay();
        int a, b;
        switch (random.nextInt(15)) {
            case 0:
                if (random.nextInt(5) == 0) hand();
                break;
            case 1:
                if (random.nextInt(5) == 0) mill();
                break;
            case 2:
                a = any(0, 2);
                b = a == 0 ? any(0, 9999) : a == 1 ? any(0, 32) : any(0, 30);
                if (random.nextInt(3) == 0) same("paper", x.paper(h, a, b, d), y.paper(h, a, b, d));
                break;
            case 3: case 4: case 5:
                a = any(0, 1439);
                b = any(a + 1, Math.max(a + 1, Math.min(1440, a + 500)));
                int where = anyWhere();
                same("line(" + h + ", " + d + ", " + where + ", " + a + ", " + b + ")", x.line(h, d, where, a, b),
                    y.line(h, d, where, a, b));
                break;
            case 6:
                a = any(0, 1439);
                b = any(-90, 90);
                if (random.nextInt(3) == 0) same("check", x.check(m, a, b), y.check(m, a, b));
                break;
            case 7:
                int i = any(0, 5);
                a = any(15, 300);
                b = any(0, random.nextInt(4));
                same("period", x.period(i, a, b), y.period(i, a, b));
                break;
            case 8:
                a = random.nextBoolean() ? 1 << any(1, 9) : any(0, 1023);
                same("bench(" + a + ")", x.bench(a), y.bench(a));
                break;
            case 9:
                a = any(0, 5);
                b = any(0, 500);
                same("base", x.base(a, b), y.base(a, b));
                break;
            case 10: case 11:
                a = any(0, 5);
                same("sue(" + m + ", " + h + ", " + d + ", " + a + ")", x.sue(m, h, d, a), y.sue(m, h, d, a));
                break;
            case 12:
                a = any(0, Math.max(0, y.count(5) - 1));
                if (random.nextInt(3) == 0) same("appeal(" + a + ")", x.appeal(a), y.appeal(a));
                break;
            case 13:
                a = any(0, 8);
                b = any(0, 8);
                int v = any(1, 30);
                same("road", x.road(a, b, v), y.road(a, b, v));
                break;
            default:
                a = any(0, 99);
                same("doubt", x.doubt(m, a), y.doubt(m, a));
                break;
        }
    }

    private void ask() {
        int h = anyHand(), m = anyMill(), d = anyDay(), i = any(0, Math.max(0, y.count(2) - 1));
        int sure = any(0, 1);
        int a;
        String at = "(" + h + ", " + m + ", " + d + ")";
        switch (random.nextInt(16)) {
            case 0:
                a = any(0, 5);
                same("custom", x.custom(a, h), y.custom(a, h));
                break;
            case 1:
                a = any(0, 2);
                same("born", x.born(h, a), y.born(h, a));
                break;
            case 2:
                same("age", x.age(h, d, sure), y.age(h, d, sure));
                break;
            case 3: case 4:
                same("binds " + i + at, x.binds(i, h, m, d), y.binds(i, h, m, d));
                break;
            case 5:
                a = any(0, 6);
                same("duty " + a + at, x.duty(h, m, d, a, sure), y.duty(h, m, d, a, sure));
                break;
            case 6:
                a = any(0, 6);
                same("why " + a + at, x.why(h, m, d, a, sure), y.why(h, m, d, a, sure));
                break;
            case 7:
                same("quarrel" + at, x.quarrel(h, m, d), y.quarrel(h, m, d));
                break;
            case 8:
                a = any(0, 4);
                same("rule", x.rule(i, a), y.rule(i, a));
                break;
            case 9:
                a = any(0, 1440);
                same("truth", x.truth(m, a, sure), y.truth(m, a, sure));
                break;
            case 10:
                a = any(0, 2);
                same("work", x.work(h, d, a), y.work(h, d, a));
                break;
            case 11: case 12:
                a = any(0, 5);
                same("breach " + a + at, x.breach(h, d, a), y.breach(h, d, a));
                break;
            case 13:
                a = any(0, Math.max(0, y.count(5) - 1));
                int b = any(0, 4);
                same("suit", x.suit(a, b), y.suit(a, b));
                break;
            case 14:
                a = anyWhere();
                same("fines", x.fines(a), y.fines(a));
                break;
            default:
                a = any(0, 7);
                same("count", x.count(a), y.count(a));
                same("trace", x.trace(), y.trace());
                break;
        }
    }

    private void askDearly() {
        int h = anyHand(), d = anyDay(), what = any(0, 1);
        int a, b, c;
        switch (random.nextInt(6)) {
            case 0:
                same("clash", x.clash(h, d), y.clash(h, d));
                break;
            case 1: case 2:
                same("doubted", x.doubted(h, d, what), y.doubted(h, d, what));
                break;
            case 3:
                a = any(1, 6);
                b = any(1, random.nextInt(4) == 0 ? 3 : 2);
                c = any(0, 1800);
                int q = any(1, 6);
                same("can", x.can(a, b, c, q, what), y.can(a, b, c, q, what));
                break;
            case 4:
                a = any(0, 2000);
                b = any(1, 10);
                c = any(0, 240);
                same("lost", x.lost(a, b, c), y.lost(a, b, c));
                break;
            default:
                a = any(1, random.nextBoolean() ? 60 : 200);
                b = any(0, 2);
                same("way", x.way(a, b), y.way(a, b));
                break;
        }
    }
}
