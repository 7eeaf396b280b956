import java.util.ArrayList;
import java.util.List;

/**
 * The document written down a second time, as naively as can be and with all of the Java library,
 * for AgainstPlainTest to compare with. It shares no code with MillInspectors.
 */
final class PlainInspectors {
    private static final int BAD = -1, STATE = -2, FULL = -3, NONE = -9;

    private static final class Fault extends Exception {
        private static final long serialVersionUID = 1;
        final int place;

        Fault(int place) {
            this.place = place;
        }
    }

    private interface Cond {
        int of(int hand, int mill, int day);
    }

    private static final class Rule {
        int number, first, last, struck = NONE, duties;
        Cond cond;
        Integer hours, from, to, school, rest, paper, bar;

        Integer tells(int what) {
            return new Integer[] {hours, from, to, school, rest, paper, bar}[what];
        }
    }

    private final List<int[]> mills = new ArrayList<>();
    private final List<int[]> hands = new ArrayList<>();
    private final List<List<int[]>> papers = new ArrayList<>();
    private final List<List<int[]>> checks = new ArrayList<>();
    private final List<Integer> doubts = new ArrayList<>();
    private final List<int[]> lines = new ArrayList<>();
    private final List<Integer> benches = new ArrayList<>();
    private final List<int[]> cases = new ArrayList<>();
    private List<Rule> rules = new ArrayList<>();
    private final StringBuilder text = new StringBuilder();
    private final int[] bases = {20, 40, 60, 80, 100, 120};
    private final int[][] roads = new int[9][9];
    private final int[][] periods = {{90, 1}, {90, 1}, {90, 1}, {90, 1}, {90, 1}, {90, 1}};
    private long traced;

    PlainInspectors() {
        for (int a = 0; a < 9; a++) {
            for (int b = 0; b < 9; b++) {
                roads[a][b] = a == b ? 0 : 10;
            }
        }
    }

    private static boolean in(long n, long a, long b) {
        return a <= n && n <= b;
    }

    private boolean isHand(int h) {
        return in(h, 0, hands.size() - 1);
    }

    private boolean isMill(int m) {
        return in(m, 0, mills.size() - 1);
    }

    private static boolean isDay(int d) {
        return in(d, 0, 359);
    }

    int mill(int trade, int owner, int town) {
        if (!in(trade, 0, 3) || !in(owner, 1, 9) || !in(town, 1, 8)) return BAD;
        if (mills.size() >= 6) return FULL;
        mills.add(new int[] {trade, owner, town});
        checks.add(new ArrayList<>());
        doubts.add(0);
        return mills.size() - 1;
    }

    int hand(int kind, int grade) {
        if (!in(kind, 0, 5) || !in(grade, 0, 3)) return BAD;
        if (hands.size() >= 24) return FULL;
        hands.add(new int[] {kind, grade});
        papers.add(new ArrayList<>());
        return hands.size() - 1;
    }

    private int custom(int kind, int hand, boolean trace) {
        int[] above = {NONE, 0, 0, 1, 0, 1};
        int[] marks = {1, 10, 100, 1000, 10000, 100000};
        if (trace) traced += marks[kind];
        int up = kind == 0 ? 0 : custom(above[kind], hand, trace);
        if (kind == 0) return 900 - 30 * hands.get(hand)[1];
        if (kind == 1) return up / 2 + 30;
        if (kind == 2) return up - 150;
        if (kind == 3) return up - 45;
        if (kind == 4) return up - up / 10;
        return up + 15 * papers.get(hand).size();
    }

    int custom(int kind, int hand) {
        return in(kind, 0, 5) && isHand(hand) ? custom(kind, hand, true) : BAD;
    }

    int paper(int hand, int sort, int n, int day) {
        if (!isHand(hand) || !in(sort, 0, 2)) return BAD;
        if (!in(n, 0, new int[] {9999, 32, 30}[sort])) return BAD;
        if (sort > 0 && !isDay(day)) return BAD;
        if (papers.get(hand).size() >= 3) return FULL;
        papers.get(hand).add(new int[] {sort, n, day});
        return papers.get(hand).size();
    }

    private boolean agrees(int born, int[] paper) {
        if (paper[0] == 0) return born == paper[1];
        int years = Math.floorDiv(born + paper[2], 360);
        if (paper[0] == 2) return years >= paper[1];
        return years >= paper[1] / 3 && years < paper[1] / 2 + 5;
    }

    /** Every DAY is tried. */
    private int[] span(int hand) {
        int from = NONE;
        int to = NONE;
        for (int born = 0; born <= 10799; born++) {
            boolean can = true;
            for (int[] p : papers.get(hand)) can &= agrees(born, p);
            if (can) {
                if (from == NONE) from = born;
                to = born;
            }
        }
        return from == NONE ? new int[] {0, 10799, 1} : new int[] {from, to, 0};
    }

    int born(int hand, int what) {
        return isHand(hand) && in(what, 0, 2) ? span(hand)[what] : BAD;
    }

    int age(int hand, int day, int what) {
        return isHand(hand) && isDay(day) && in(what, 0, 1) ? (span(hand)[what] + day) / 360 : BAD;
    }

    int type(long v, int n) {
        if (!in(n, 1, 8)) return BAD;
        if (text.length() + n > 900) return FULL;
        for (int k = n - 1; k >= 0; k--) text.append((char) (v >> 8 * k & 255));
        return text.length();
    }

    int clear() {
        int n = text.length();
        text.setLength(0);
        return n;
    }

    // The text: TOKENS first, each with its place; then the rows of the grammar, one method each.

    private List<String> tokens;
    private List<Integer> places;
    private int at;

    private void cut() {
        tokens = new ArrayList<>();
        places = new ArrayList<>();
        at = 0;
        java.util.regex.Matcher m = java.util.regex.Pattern.compile("(?s)[a-z]+|[0-9]+|[ \n]+|.").matcher(text);
        while (m.find()) {
            if (m.group().isBlank() && m.group().matches("[ \n]+")) continue;
            tokens.add(m.group());
            places.add(m.start());
        }
        tokens.add("");
        places.add(text.length());
    }

    private String look() {
        return tokens.get(at);
    }

    private Fault wrong() {
        return new Fault(places.get(at));
    }

    private void eat(String token) throws Fault {
        if (!look().equals(token)) throw wrong();
        at++;
    }

    private int number(int least, int most) throws Fault {
        if (!look().matches("0|[1-9][0-9]{0,3}")) throw wrong();
        int n = Integer.parseInt(look());
        if (!in(n, least, most)) throw wrong();
        at++;
        return n;
    }

    private static Rule find(List<Rule> told, String number) {
        for (Rule r : told) if (number.equals("" + r.number)) return r;
        return null;
    }

    int act() {
        cut();
        List<Rule> told = new ArrayList<>();
        try {
            while (!look().isEmpty()) item(told);
        } catch (Fault f) {
            return -10 - f.place;
        }
        rules = told;
        text.setLength(0);
        return rules.size();
    }

    private void item(List<Rule> told) throws Fault {
        if (look().equals("strike")) {
            at++;
            Rule r = find(told, look());
            if (r == null) throw wrong();
            at++;
            eat("on");
            int day = number(0, 359);
            r.struck = r.struck == NONE ? day : Math.min(r.struck, day);
            eat(";");
            return;
        }
        if (told.size() == 16) throw wrong();
        eat("rule");
        if (find(told, look()) != null) throw wrong();
        Rule r = new Rule();
        r.number = number(1, 99);
        eat("on");
        r.first = number(0, 359);
        eat("-");
        r.last = number(r.first, 359);
        eat(":");
        if (look().equals("if")) {
            at++;
            r.cond = cond(0, new int[1]);
            eat("then");
        }
        duty(r);
        while (look().equals(",")) {
            at++;
            duty(r);
        }
        eat(";");
        told.add(r);
    }

    private void duty(Rule r) throws Fault {
        String word = look();
        int what = List.of("hours", "from", "to", "school", "rest", "paper", "bar").indexOf(word);
        if (what < 0 || what == 2 || r.tells(what) != null || r.duties == 4) throw wrong();
        at++;
        r.duties++;
        switch (word) {
            case "hours" -> r.hours = number(0, 1440);
            case "school" -> r.school = number(0, 600);
            case "rest" -> r.rest = number(1, 1440);
            case "paper" -> r.paper = 1;
            case "bar" -> r.bar = 1;
            default -> {
                r.from = number(0, 1439);
                eat("to");
                r.to = number(r.from + 1, 1439);
            }
        }
    }

    private Cond cond(int open, int[] tests) throws Fault {
        Cond c = and(open, tests);
        while (look().equals("|")) {
            at++;
            Cond left = c;
            Cond right = and(open, tests);
            c = (h, m, d) -> Math.max(left.of(h, m, d), right.of(h, m, d));
        }
        return c;
    }

    private Cond and(int open, int[] tests) throws Fault {
        Cond c = not(open, tests);
        while (look().equals("&")) {
            at++;
            Cond left = c;
            Cond right = not(open, tests);
            c = (h, m, d) -> Math.min(left.of(h, m, d), right.of(h, m, d));
        }
        return c;
    }

    private Cond not(int open, int[] tests) throws Fault {
        if (look().equals("!")) {
            at++;
            Cond c = not(open, tests);
            return (h, m, d) -> 2 - c.of(h, m, d);
        }
        if (look().equals("(")) {
            if (open == 10) throw wrong();
            at++;
            Cond c = cond(open + 1, tests);
            eat(")");
            return c;
        }
        return test(tests);
    }

    private Cond test(int[] tests) throws Fault {
        String word = look();
        if (!List.of("age", "kind", "trade", "mill", "paper").contains(word) || ++tests[0] > 30) throw wrong();
        at++;
        if (word.equals("paper")) return (h, m, d) -> papers.get(h).isEmpty() ? 0 : 2;
        String sign = look();
        if (!(word.equals("age") ? List.of("<", ">", "=") : List.of("=")).contains(sign)) throw wrong();
        at++;
        int n = number(0, 9999);
        return switch (word) {
            case "age" -> (h, m, d) -> ages(h, d, sign, n);
            case "kind" -> (h, m, d) -> hands.get(h)[0] == n ? 2 : 0;
            case "trade" -> (h, m, d) -> mills.get(m)[0] == n ? 2 : 0;
            default -> (h, m, d) -> m == n ? 2 : 0;
        };
    }

    /** Every AGE of the span is tried. */
    private int ages(int hand, int day, String sign, int n) {
        int[] born = span(hand);
        int so = 0;
        int all = 0;
        for (int age = (born[0] + day) / 360; age <= (born[1] + day) / 360; age++) {
            all++;
            so += (sign.equals("<") ? age < n : sign.equals(">") ? age > n : age == n) ? 1 : 0;
        }
        return so == all ? 2 : so > 0 ? 1 : 0;
    }

    private int bound(Rule r, int hand, int mill, int day) {
        if (!in(day, r.first, r.last) || r.struck != NONE && r.struck <= day) return 0;
        return r.cond == null ? 2 : r.cond.of(hand, mill, day);
    }

    private boolean isPlaced(int hand, int mill, int day) {
        return isHand(hand) && isMill(mill) && isDay(day);
    }

    int binds(int i, int hand, int mill, int day) {
        return in(i, 0, rules.size() - 1) && isPlaced(hand, mill, day) ? bound(rules.get(i), hand, mill, day) : BAD;
    }

    private int dutyBy(int hand, int mill, int day, int what, int least) {
        List<Integer> all = new ArrayList<>();
        all.add(new int[] {custom(hands.get(hand)[0], hand, false), 0, 1440, 0, 1440, 0, 0}[what]);
        for (Rule r : rules) if (r.tells(what) != null && bound(r, hand, mill, day) >= least) all.add(r.tells(what));
        java.util.Collections.sort(all);
        return all.get(what == 0 || what == 2 || what == 4 ? 0 : all.size() - 1);
    }

    int duty(int hand, int mill, int day, int what, int sure) {
        if (!isPlaced(hand, mill, day) || !in(what, 0, 6) || !in(sure, 0, 1)) return BAD;
        return dutyBy(hand, mill, day, what, 1 + sure);
    }

    int why(int hand, int mill, int day, int what, int sure) {
        if (!isPlaced(hand, mill, day) || !in(what, 0, 6) || !in(sure, 0, 1)) return BAD;
        int due = dutyBy(hand, mill, day, what, 1 + sure);
        int least = 100;
        for (Rule r : rules) {
            boolean tells = r.tells(what) != null && r.tells(what) == due;
            if (tells && bound(r, hand, mill, day) >= 1 + sure) least = Math.min(least, r.number);
        }
        return least == 100 ? NONE : least;
    }

    int quarrel(int hand, int mill, int day) {
        if (!isPlaced(hand, mill, day)) return BAD;
        List<Rule> sure = new ArrayList<>();
        for (Rule r : rules) if (r.from != null && bound(r, hand, mill, day) == 2) sure.add(r);
        for (int a = 0; a < sure.size(); a++) {
            for (int b = a + 1; b < sure.size(); b++) {
                Rule r = sure.get(a);
                Rule s = sure.get(b);
                if (r.from >= s.to || s.from >= r.to) return 100 * r.number + s.number;
            }
        }
        return NONE;
    }

    int rule(int i, int what) {
        if (!in(i, 0, rules.size() - 1) || !in(what, 0, 4)) return BAD;
        Rule r = rules.get(i);
        return new int[] {r.number, r.first, r.last, r.struck, r.duties}[what];
    }

    int line(int hand, int day, int where, int in, int out) {
        if (!isHand(hand) || !isDay(day) || where != NONE && !isMill(where)) return BAD;
        if (!in(in, 0, 1440) || !in(out, 0, 1440) || in >= out) return BAD;
        if (lines.size() >= 60) return FULL;
        lines.add(new int[] {hand, day, where, in, out});
        return lines.size();
    }

    int check(int mill, int minute, int e) {
        if (!isMill(mill) || !in(minute, 0, 1439) || !in(e, -90, 90)) return BAD;
        if (checks.get(mill).size() >= 4) return FULL;
        checks.get(mill).add(new int[] {minute, e});
        return checks.get(mill).size();
    }

    private int[] truths(int mill, int minute) {
        if (mill == NONE) return new int[] {minute, minute};
        java.util.TreeMap<Integer, Integer> byMinute = new java.util.TreeMap<>();
        for (int[] c : checks.get(mill)) byMinute.put(c[0], c[1]);
        var floor = byMinute.floorEntry(minute);
        var ceiling = byMinute.ceilingEntry(minute);
        if (floor == null && ceiling == null) return new int[] {minute, minute};
        if (floor == null) return new int[] {minute + ceiling.getValue() - 10, minute + ceiling.getValue() + 10};
        if (ceiling == null) return new int[] {minute + floor.getValue() - 10, minute + floor.getValue() + 10};
        int a = floor.getValue();
        int b = ceiling.getValue();
        return new int[] {minute + Math.min(a, b), minute + Math.max(a, b)};
    }

    int truth(int mill, int minute, int what) {
        return isMill(mill) && in(minute, 0, 1440) && in(what, 0, 1) ? truths(mill, minute)[what] : -999;
    }

    /** Of a HAND's LINES on a DAY: where, IN's least, IN's greatest, OUT's least, OUT's greatest. */
    private List<int[]> spans(int hand, int day) {
        List<int[]> found = new ArrayList<>();
        for (int[] l : lines) {
            if (l[0] != hand || l[1] != day) continue;
            int[] in = truths(l[2], l[3]);
            int[] out = truths(l[2], l[4]);
            found.add(new int[] {l[2], in[0], in[1], out[0], out[1]});
        }
        return found;
    }

    int work(int hand, int day, int what) {
        if (!isHand(hand) || !isDay(day) || !in(what, 0, 2)) return BAD;
        int sum = 0;
        for (int[] s : spans(hand, day)) {
            if (what == 2 && s[0] == NONE) sum += s[3] - s[1];
            if (what == 0 && s[0] != NONE) sum += Math.max(0, s[3] - s[2]);
            if (what == 1 && s[0] != NONE) sum += Math.max(0, s[4] - s[1]);
        }
        return sum;
    }

    int breach(int hand, int day, int of) {
        if (!isHand(hand) || !isDay(day) || !in(of, 0, 5)) return BAD;
        int worst = 0;
        for (int[] s : spans(hand, day)) {
            if (s[0] == NONE) continue;
            for (int sure = 1; sure <= 2; sure++) {
                boolean surely = sure == 2;
                int in = surely ? s[2] : s[1];
                int out = surely ? s[3] : s[4];
                int[] d = new int[7];
                for (int what = 0; what < 7; what++) d[what] = dutyBy(hand, s[0], day, what, sure);
                boolean broken = switch (of) {
                    case 0 -> work(hand, day, surely ? 0 : 1) > d[0];
                    case 1 -> in < d[1] || out > d[2];
                    case 2 -> work(hand, day, 2) < d[3];
                    case 3 -> Math.max(0, out - in) > d[4];
                    case 4 -> d[5] == 1 && papers.get(hand).isEmpty();
                    default -> d[6] == 1;
                };
                if (broken) worst = Math.max(worst, sure);
            }
        }
        return worst;
    }

    private static boolean clash(int[] s, int[] t) {
        return Math.max(s[2], t[2]) < Math.min(s[3], t[3]);
    }

    private static int clashes(List<int[]> spans, int without) {
        int n = 0;
        for (int a = 0; a < spans.size(); a++) {
            for (int b = 0; b < a; b++) {
                boolean left = without == 0 || (without >> a & 1) == 0 && (without >> b & 1) == 0;
                if (left && clash(spans.get(a), spans.get(b))) n++;
            }
        }
        return n;
    }

    int clash(int hand, int day) {
        return isHand(hand) && isDay(day) ? clashes(spans(hand, day), 0) : BAD;
    }

    int doubted(int hand, int day, int what) {
        if (!isHand(hand) || !isDay(day) || !in(what, 0, 1)) return BAD;
        List<int[]> spans = spans(hand, day);
        if (spans.size() > 12) return STATE;
        for (int n = 0; n <= spans.size(); n++) {
            for (int set = 0; set < 1 << spans.size(); set++) {
                if (Integer.bitCount(set) == n && clashes(spans, set) == 0) return what == 0 ? n : set;
            }
        }
        return 12345;
    }

    int period(int i, int minutes, int needs) {
        if (!in(i, 0, 5) || !in(minutes, 15, 300) || !in(needs, 0, 3)) return BAD;
        periods[i] = new int[] {minutes, needs};
        return 1;
    }

    /** SETS are put in one by one, the last of them first. */
    private int tables(int p, int sets, int[] given, int[] lacks, int number, int[] found) {
        if (sets == 0) {
            for (int i = 0; i < p; i++) if (lacks[i] > 0) return found[1];
            found[0]++;
            if (found[1] == NONE) found[1] = number;
            return found[1];
        }
        for (int bits = 0; bits < 1 << p; bits++) {
            int minutes = 0;
            int[] then = lacks.clone();
            for (int i = 0; i < p; i++) {
                minutes += (bits >> i & 1) * periods[i][0];
                then[i] -= bits >> i & 1;
            }
            boolean tooLong = Integer.toBinaryString(bits).contains("1".repeat(given[1] + 1));
            if (minutes <= given[0] && !tooLong) tables(p, sets - 1, given, then, number | bits << 6 * (sets - 1), found);
        }
        return found[1];
    }

    int can(int p, int n, int most, int q, int what) {
        if (!in(p, 1, 6) || !in(n, 1, 3) || !in(most, 0, 1800) || !in(q, 1, 6) || !in(what, 0, 1)) return BAD;
        int[] lacks = new int[p];
        for (int i = 0; i < p; i++) lacks[i] = periods[i][1];
        int[] found = {0, NONE};
        tables(p, n, new int[] {most, q}, lacks, 0, found);
        return found[what];
    }

    long lost(int minutes, int days, int most) {
        if (!in(minutes, 0, 2000) || !in(days, 1, 10) || !in(most, 0, 240)) return -1;
        int quarters = (minutes + 14) / 15;
        long[][] ways = new long[days + 1][quarters + 1];
        ways[0][0] = 1;
        for (int d = 1; d <= days; d++) {
            for (int s = 0; s <= quarters; s++) {
                for (int k = 0; 15 * k <= most && k <= s; k++) ways[d][s] += ways[d - 1][s - k];
            }
        }
        return ways[days][quarters];
    }

    int bench(int kin) {
        if (!in(kin, 0, 1023)) return BAD;
        if (benches.size() >= 5) return FULL;
        benches.add(kin);
        return benches.size() - 1;
    }

    int base(int of, int v) {
        if (!in(of, 0, 5) || !in(v, 0, 500)) return BAD;
        int old = bases[of];
        bases[of] = v;
        return old;
    }

    int sue(int mill, int hand, int day, int of) {
        if (!isPlaced(hand, mill, day) || !in(of, 0, 5)) return BAD;
        int bench = 0;
        while (bench < benches.size() && (benches.get(bench) & 1 << mills.get(mill)[1]) != 0) bench++;
        boolean there = false;
        for (int[] s : spans(hand, day)) there |= s[0] == mill;
        if (bench == benches.size() || !there || breach(hand, day, of) != 2) return STATE;
        if (cases.size() >= 20) return FULL;
        cases.add(new int[] {bench, mill, hand, of, 1});
        return cases.size() - 1;
    }

    private int fine(int i) {
        int[] c = cases.get(i);
        int times = 1;
        for (int k = 0; k < i; k++) if (cases.get(k)[1] == c[1]) times += cases.get(k)[4];
        return c[4] * bases[c[3]] * times;
    }

    int suit(int i, int what) {
        if (!in(i, 0, cases.size() - 1) || !in(what, 0, 4)) return BAD;
        int[] c = cases.get(i);
        return new int[] {c[0], fine(i), c[4], c[1], c[3]}[what];
    }

    int appeal(int i) {
        if (!in(i, 0, cases.size() - 1)) return BAD;
        int[] c = cases.get(i);
        if (c[4] == 0) return STATE;
        int before = count(6);
        for (int[] d : cases.subList(i, cases.size())) if (d[2] == c[2] && d[3] == c[3]) d[4] = 0;
        return before - count(6);
    }

    int fines(int mill) {
        if (mill != NONE && !isMill(mill)) return BAD;
        int sum = 0;
        for (int i = 0; i < cases.size(); i++) if (mill == NONE || cases.get(i)[1] == mill) sum += fine(i);
        return sum;
    }

    int road(int a, int b, int v) {
        if (!in(a, 0, 8) || !in(b, 0, 8) || a == b || !in(v, 1, 30)) return BAD;
        int old = roads[a][b];
        roads[a][b] = v;
        roads[b][a] = v;
        return old;
    }

    int doubt(int mill, int v) {
        if (!isMill(mill) || !in(v, 0, 99)) return BAD;
        return doubts.set(mill, v);
    }

    /** Every order is tried. */
    private void visit(int town, int set, int hours, int doubt, int most, int[] best) {
        if (hours > most) return;
        boolean better = doubt > best[0] || doubt == best[0]
            && (hours < best[2] || hours == best[2] && set < best[1]);
        if (better) {
            best[0] = doubt;
            best[1] = set;
            best[2] = hours;
        }
        for (int m = 0; m < mills.size(); m++) {
            int there = mills.get(m)[2];
            if ((set >> m & 1) == 0) {
                visit(there, set | 1 << m, hours + roads[town][there] + 2, doubt + doubts.get(m), most, best);
            }
        }
    }

    int way(int hours, int what) {
        if (!in(hours, 1, 200) || !in(what, 0, 2)) return BAD;
        int[] best = {0, 0, 0};
        visit(0, 0, 0, 0, hours, best);
        return best[what];
    }

    int count(int what) {
        if (!in(what, 0, 7)) return BAD;
        int standing = 0;
        for (int[] c : cases) standing += c[4];
        return new int[] {mills.size(), hands.size(), rules.size(), lines.size(), benches.size(), cases.size(), standing,
            text.length()}[what];
    }

    long trace() {
        return traced;
    }
}
