/**
 * Inspectors of mills: hands and their papers, acts told as texts, books kept by clocks that run
 * wrong, relays, benches and visits. The document's promises say what each public call answers.
 */
public final class MillInspectors {
    public static final int BAD = -1, STATE = -2, FULL = -3, NONE = -9;

    private static final int DAYS = 360;
    private static final int YEAR = 360;
    private static final int MINUTES = 1440;
    private static final int BAD_TRUTH = -999;
    private static final int FAULT_BASE = -10;

    private static final int NOT = 0, MAYBE = 1, SURE = 2;

    private static final int HOURS = 0, FROM = 1, TO = 2, SCHOOL = 3, REST = 4, PAPER = 5, BAR = 6;
    private static final int DUTY_SORTS = 7;

    private static final int OF_HOURS = 0, OF_SPAN = 1, OF_SCHOOL = 2, OF_REST = 3, OF_PAPER = 4, OF_BAR = 5;
    private static final int BREACH_SORTS = 6;

    private final Mills mills;
    private final Hands hands;
    private final Reader reader;
    private final Book book;
    private final Table table;
    private final Court court;
    private final Roads roads;
    private Act inForce;
    /** A text is read into this one, so that a faulty text leaves the ACT in force as it was. */
    private Act spare;
    private long traced;

    public MillInspectors() {
        mills = new Mills();
        hands = new Hands();
        book = new Book(mills);
        table = new Table();
        court = new Court();
        roads = new Roads();
        inForce = new Act(hands, mills);
        spare = new Act(hands, mills);
        reader = new Reader(spare);
    }

    // ---- mills, hands, papers

    public int mill(int trade, int owner, int town) {
        if (!within(trade, 0, 3) || !within(owner, 1, 9) || !within(town, 1, 8)) {
            return BAD;
        }
        return mills.add(trade, owner, town);
    }

    public int hand(int kind, int grade) {
        if (!within(kind, 0, Hands.LAST_KIND) || !within(grade, 0, 3)) {
            return BAD;
        }
        return hands.add(kind, grade);
    }

    public int custom(int kind, int hand) {
        if (!within(kind, 0, Hands.LAST_KIND) || !hands.knows(hand)) {
            return BAD;
        }
        traced += Hands.traceOf(kind);
        return hands.customAs(kind, hand);
    }

    public int paper(int hand, int sort, int n, int day) {
        if (!hands.knows(hand) || !within(sort, 0, 2) || !within(n, 0, Hands.mostOf(sort))) {
            return BAD;
        }
        if (sort != Hands.BIRTH && !isDay(day)) {
            return BAD;
        }
        return hands.addPaper(hand, sort, n, day);
    }

    public int born(int hand, int what) {
        if (!hands.knows(hand) || !within(what, 0, 2)) {
            return BAD;
        }
        if (what == 2) {
            return hands.contradicted[hand] ? 1 : 0;
        }
        return what == 0 ? hands.bornFrom[hand] : hands.bornTo[hand];
    }

    public int age(int hand, int day, int what) {
        if (!hands.knows(hand) || !isDay(day) || !within(what, 0, 1)) {
            return BAD;
        }
        return what == 0 ? hands.ageFrom(hand, day) : hands.ageTo(hand, day);
    }

    // ---- acts

    public int type(long v, int n) {
        if (!within(n, 1, 8)) {
            return BAD;
        }
        return reader.append(v, n);
    }

    public int clear() {
        return reader.empty();
    }

    public int act() {
        int fault = reader.readInto(spare);
        if (fault != NONE) {
            return FAULT_BASE - fault;
        }
        Act old = inForce;
        inForce = spare;
        spare = old;
        reader.empty();
        return inForce.rules;
    }

    public int binds(int i, int hand, int mill, int day) {
        if (!inForce.knows(i) || !isPlaced(hand, mill, day)) {
            return BAD;
        }
        return inForce.binding(i, hand, mill, day);
    }

    public int duty(int hand, int mill, int day, int what, int sure) {
        if (!isPlaced(hand, mill, day) || !within(what, 0, DUTY_SORTS - 1) || !within(sure, 0, 1)) {
            return BAD;
        }
        inForce.ask(hand, mill, day);
        return inForce.asked(what, sure == 1 ? SURE : MAYBE);
    }

    public int why(int hand, int mill, int day, int what, int sure) {
        if (!isPlaced(hand, mill, day) || !within(what, 0, DUTY_SORTS - 1) || !within(sure, 0, 1)) {
            return BAD;
        }
        inForce.ask(hand, mill, day);
        return inForce.reason(what, sure == 1 ? SURE : MAYBE);
    }

    public int quarrel(int hand, int mill, int day) {
        if (!isPlaced(hand, mill, day)) {
            return BAD;
        }
        inForce.ask(hand, mill, day);
        return inForce.firstQuarrel();
    }

    public int rule(int i, int what) {
        if (!inForce.knows(i)) {
            return BAD;
        }
        switch (what) {
            case 0: return inForce.number[i];
            case 1: return inForce.first[i];
            case 2: return inForce.last[i];
            case 3: return inForce.struck[i];
            case 4: return inForce.duties[i];
            default: return BAD;
        }
    }

    // ---- books, clocks

    public int line(int hand, int day, int where, int in, int out) {
        if (!hands.knows(hand) || !isDay(day) || where != NONE && !mills.knows(where)) {
            return BAD;
        }
        if (in < 0 || out > MINUTES || in >= out) {
            return BAD;
        }
        return book.add(hand, day, where, in, out);
    }

    public int check(int mill, int minute, int e) {
        if (!mills.knows(mill) || !within(minute, 0, MINUTES - 1) || !within(e, -90, 90)) {
            return BAD;
        }
        return mills.addCheck(mill, minute, e);
    }

    public int truth(int mill, int minute, int what) {
        if (!mills.knows(mill) || !within(minute, 0, MINUTES) || !within(what, 0, 1)) {
            return BAD_TRUTH;
        }
        return mills.inTruth(mill, minute, what == 1);
    }

    public int work(int hand, int day, int what) {
        if (!hands.knows(hand) || !isDay(day) || !within(what, 0, 2)) {
            return BAD;
        }
        book.pick(hand, day);
        if (what == 2) {
            return book.schooled();
        }
        return book.worked(what == 0 ? SURE : MAYBE);
    }

    public int breach(int hand, int day, int of) {
        if (!hands.knows(hand) || !isDay(day) || !within(of, 0, BREACH_SORTS - 1)) {
            return BAD;
        }
        return worstBreach(hand, day, of);
    }

    public int clash(int hand, int day) {
        if (!hands.knows(hand) || !isDay(day)) {
            return BAD;
        }
        book.pick(hand, day);
        return book.clashes();
    }

    public int doubted(int hand, int day, int what) {
        if (!hands.knows(hand) || !isDay(day) || !within(what, 0, 1)) {
            return BAD;
        }
        book.pick(hand, day);
        if (book.picked > Book.MOST_WEIGHED) {
            return STATE;
        }
        int set = book.leastDoubted();
        return what == 0 ? Integer.bitCount(set) : set;
    }

    // ---- relays, lost time

    public int period(int i, int minutes, int needs) {
        if (!within(i, 0, Table.MOST_PERIODS - 1) || !within(minutes, 15, 300) || !within(needs, 0, 3)) {
            return BAD;
        }
        return table.setPeriod(i, minutes, needs);
    }

    public int can(int p, int n, int most, int q, int what) {
        if (!within(p, 1, Table.MOST_PERIODS) || !within(n, 1, 3) || !within(most, 0, 1800)) {
            return BAD;
        }
        if (!within(q, 1, Table.MOST_PERIODS) || !within(what, 0, 1)) {
            return BAD;
        }
        table.prepare(p, most, q);
        return what == 0 ? table.tables(n) : table.leastTable(n);
    }

    public long lost(int minutes, int days, int most) {
        if (!within(minutes, 0, 2000) || !within(days, 1, 10) || !within(most, 0, 240)) {
            return BAD;
        }
        return table.waysToMakeUp((minutes + Table.QUARTER - 1) / Table.QUARTER, days, most / Table.QUARTER);
    }

    // ---- benches, visits

    public int bench(int kin) {
        if (!within(kin, 0, 1023)) {
            return BAD;
        }
        return court.addBench(kin);
    }

    public int base(int of, int v) {
        if (!within(of, 0, BREACH_SORTS - 1) || !within(v, 0, 500)) {
            return BAD;
        }
        return court.setBase(of, v);
    }

    public int sue(int mill, int hand, int day, int of) {
        if (!isPlaced(hand, mill, day) || !within(of, 0, BREACH_SORTS - 1)) {
            return BAD;
        }
        int bench = court.benchFor(mills.owner[mill]);
        if (bench == NONE || worstBreach(hand, day, of) != SURE || !book.pickedAt(mill)) {
            return STATE;
        }
        return court.addCase(mill, hand, of, bench);
    }

    public int suit(int i, int what) {
        if (!court.knows(i)) {
            return BAD;
        }
        switch (what) {
            case 0: return court.bench[i];
            case 1: return court.fine(i);
            case 2: return court.stands[i] ? 1 : 0;
            case 3: return court.mill[i];
            case 4: return court.of[i];
            default: return BAD;
        }
    }

    public int appeal(int i) {
        if (!court.knows(i)) {
            return BAD;
        }
        return court.stands[i] ? court.overturn(i) : STATE;
    }

    public int fines(int mill) {
        if (mill != NONE && !mills.knows(mill)) {
            return BAD;
        }
        return court.finesOf(mill);
    }

    public int road(int a, int b, int v) {
        if (!within(a, 0, Roads.TOWNS - 1) || !within(b, 0, Roads.TOWNS - 1) || a == b || !within(v, 1, 30)) {
            return BAD;
        }
        return roads.setHours(a, b, v);
    }

    public int doubt(int mill, int v) {
        if (!mills.knows(mill) || !within(v, 0, 99)) {
            return BAD;
        }
        int old = mills.doubt[mill];
        mills.doubt[mill] = v;
        return old;
    }

    public int way(int hours, int what) {
        if (!within(hours, 1, 200) || !within(what, 0, 2)) {
            return BAD;
        }
        roads.seek(mills, hours);
        switch (what) {
            case 0: return roads.bestDoubt;
            case 1: return roads.bestSet;
            default: return roads.bestHours;
        }
    }

    public int count(int what) {
        switch (what) {
            case 0: return mills.many;
            case 1: return hands.many;
            case 2: return inForce.rules;
            case 3: return book.many;
            case 4: return court.benches;
            case 5: return court.cases;
            case 6: return court.standing();
            case 7: return reader.length;
            default: return BAD;
        }
    }

    public long trace() {
        return traced;
    }

    // ---- what several calls share

    private static boolean within(int n, int least, int greatest) {
        return n >= least && n <= greatest;
    }

    private static boolean isDay(int day) {
        return within(day, 0, DAYS - 1);
    }

    private boolean isPlaced(int hand, int mill, int day) {
        return hands.knows(hand) && mills.knows(mill) && isDay(day);
    }

    /** Leaves the HAND's LINES of the DAY picked in the book, which sue() then looks at. */
    private int worstBreach(int hand, int day, int of) {
        book.pick(hand, day);
        int worst = NOT;
        for (int mill = 0; mill < mills.many; mill++) {
            if (!book.pickedAt(mill)) {
                continue;
            }
            inForce.ask(hand, mill, day);
            if (breaks(hand, mill, of, SURE)) {
                return SURE;
            }
            if (breaks(hand, mill, of, MAYBE)) {
                worst = MAYBE;
            }
        }
        return worst;
    }

    /** By what the ACT was asked last, and the LINES that are picked. */
    private boolean breaks(int hand, int mill, int of, int least) {
        switch (of) {
            case OF_HOURS:
                return book.worked(least) > inForce.asked(HOURS, least);
            case OF_SPAN:
                return book.leaves(mill, inForce.asked(FROM, least), inForce.asked(TO, least), least);
            case OF_SCHOOL:
                return book.schooled() < inForce.asked(SCHOOL, least);
            case OF_REST:
                return book.longestAt(mill, least) > inForce.asked(REST, least);
            case OF_PAPER:
                return hands.papers[hand] == 0 && inForce.asked(PAPER, least) == 1;
            case OF_BAR:
                return inForce.asked(BAR, least) == 1;
            default:
                return false;
        }
    }

    /** MILLS and the CHECKS of their clocks. */
    private static final class Mills {
        static final int MOST = 6;
        static final int MOST_CHECKS = 4;
        static final int LONE_CHECK_SLACK = 10;

        int many;
        final int[] trade = new int[MOST];
        final int[] owner = new int[MOST];
        final int[] town = new int[MOST];
        final int[] doubt = new int[MOST];
        private final int[] checks = new int[MOST];
        private final int[] checkMinute = new int[MOST * MOST_CHECKS];
        private final int[] checkError = new int[MOST * MOST_CHECKS];

        boolean knows(int mill) {
            return mill >= 0 && mill < many;
        }

        int add(int itsTrade, int itsOwner, int itsTown) {
            if (many == MOST) {
                return FULL;
            }
            trade[many] = itsTrade;
            owner[many] = itsOwner;
            town[many] = itsTown;
            return many++;
        }

        int addCheck(int mill, int minute, int error) {
            if (checks[mill] == MOST_CHECKS) {
                return FULL;
            }
            int at = mill * MOST_CHECKS + checks[mill];
            checkMinute[at] = minute;
            checkError[at] = error;
            checks[mill]++;
            return checks[mill];
        }

        /** SCHOOL, which is no MILL (NONE), has a clock that is right. */
        int inTruth(int mill, int minute, boolean greatest) {
            if (mill == NONE) {
                return minute;
            }
            int ahead = checkAhead(mill, minute);
            int behind = checkBehind(mill, minute);
            if (ahead == NONE && behind == NONE) {
                return minute;
            }
            if (ahead == NONE || behind == NONE) {
                int error = checkError[ahead == NONE ? behind : ahead];
                return minute + error + (greatest ? LONE_CHECK_SLACK : -LONE_CHECK_SLACK);
            }
            int one = checkError[ahead];
            int other = checkError[behind];
            return minute + (greatest ? Math.max(one, other) : Math.min(one, other));
        }

        /** Of two at one MINUTE the later told wins: hence "not before" here, "not behind" below. */
        private int checkAhead(int mill, int minute) {
            int found = NONE;
            int start = mill * MOST_CHECKS;
            for (int at = start; at < start + checks[mill]; at++) {
                if (checkMinute[at] <= minute && (found == NONE || checkMinute[at] >= checkMinute[found])) {
                    found = at;
                }
            }
            return found;
        }

        private int checkBehind(int mill, int minute) {
            int found = NONE;
            int start = mill * MOST_CHECKS;
            for (int at = start; at < start + checks[mill]; at++) {
                if (checkMinute[at] >= minute && (found == NONE || checkMinute[at] <= checkMinute[found])) {
                    found = at;
                }
            }
            return found;
        }
    }

    /** HANDS; of their PAPERS only the number and the span that they leave are needed later. */
    private static final class Hands {
        static final int MOST = 24;
        static final int MOST_PAPERS = 3;
        static final int LAST_KIND = 5;
        static final int CHILD = 1, YOUNG = 2, RELAY = 3, MOVED = 4, DOUBTED = 5;
        static final int BIRTH = 0, TEETH = 1, CERTIFICATE = 2;
        static final int OLDEST_BORN = 10799;

        int many;
        final int[] kind = new int[MOST];
        final int[] papers = new int[MOST];
        final int[] bornFrom = new int[MOST];
        final int[] bornTo = new int[MOST];
        final boolean[] contradicted = new boolean[MOST];
        private final int[] grade = new int[MOST];

        boolean knows(int hand) {
            return hand >= 0 && hand < many;
        }

        int add(int itsKind, int itsGrade) {
            if (many == MOST) {
                return FULL;
            }
            kind[many] = itsKind;
            grade[many] = itsGrade;
            bornFrom[many] = 0;
            bornTo[many] = OLDEST_BORN;
            return many++;
        }

        /** A KIND's number in THE TRACE, and those of all KINDS above it, which it asks. */
        static int traceOf(int asKind) {
            switch (asKind) {
                case CHILD: return 10 + 1;
                case YOUNG: return 100 + 1;
                case RELAY: return 1000 + 10 + 1;
                case MOVED: return 10000 + 1;
                case DOUBTED: return 100000 + 10 + 1;
                default: return 1;
            }
        }

        int customAs(int asKind, int hand) {
            int ofHand = 900 - 30 * grade[hand];
            int ofChild = ofHand / 2 + 30;
            switch (asKind) {
                case CHILD: return ofChild;
                case YOUNG: return ofHand - 150;
                case RELAY: return ofChild - 45;
                case MOVED: return ofHand - ofHand / 10;
                case DOUBTED: return ofChild + 15 * papers[hand];
                default: return ofHand;
            }
        }

        static int mostOf(int sort) {
            switch (sort) {
                case BIRTH: return 9999;
                case TEETH: return 32;
                default: return 30;
            }
        }

        int addPaper(int hand, int sort, int n, int day) {
            if (papers[hand] == MOST_PAPERS) {
                return FULL;
            }
            if (sort == BIRTH) {
                narrow(hand, n, n);
            } else if (sort == TEETH) {
                narrow(hand, n / 3 * YEAR - day, (n / 2 + 5) * YEAR - day - 1);
            } else {
                narrow(hand, n * YEAR - day, OLDEST_BORN);
            }
            papers[hand]++;
            return papers[hand];
        }

        /** PAPERS are never taken back, so what has been contradicted once stays so. */
        private void narrow(int hand, int from, int to) {
            if (contradicted[hand]) {
                return;
            }
            bornFrom[hand] = Math.max(bornFrom[hand], from);
            bornTo[hand] = Math.min(bornTo[hand], to);
            if (bornFrom[hand] > bornTo[hand]) {
                contradicted[hand] = true;
                bornFrom[hand] = 0;
                bornTo[hand] = OLDEST_BORN;
            }
        }

        int ageFrom(int hand, int day) {
            return (bornFrom[hand] + day) / YEAR;
        }

        int ageTo(int hand, int day) {
            return (bornTo[hand] + day) / YEAR;
        }
    }

    /** RULES of an ACT; a COND is kept as steps for a stack of values (NOT, MAYBE, SURE). */
    private static final class Act {
        static final int MOST = 16;
        static final int MOST_STEPS = 900;
        static final int STEP = 10000;
        static final int EITHER = 1, BOTH = 2, TURN = 3;
        static final int AGE_BELOW = 4, AGE_ABOVE = 5, AGE_IS = 6;
        static final int KIND_IS = 7, TRADE_IS = 8, MILL_IS = 9, HAS_PAPER = 10;
        private static final int UNTOLD = -1;

        int rules;
        final int[] number = new int[MOST];
        final int[] first = new int[MOST];
        final int[] last = new int[MOST];
        final int[] struck = new int[MOST];
        final int[] duties = new int[MOST];
        private final int[] told = new int[MOST * DUTY_SORTS];
        private final int[] stepsFrom = new int[MOST];
        private final int[] stepsTo = new int[MOST];
        private int steps;
        private final int[] step = new int[MOST_STEPS];
        private final int[] values = new int[64];
        private final int[] bound = new int[MOST];
        private int customary;
        private final Hands hands;
        private final Mills mills;

        Act(Hands hands, Mills mills) {
            this.hands = hands;
            this.mills = mills;
        }

        boolean knows(int r) {
            return r >= 0 && r < rules;
        }

        void forget() {
            rules = 0;
            steps = 0;
        }

        int find(int itsNumber) {
            for (int r = 0; r < rules; r++) {
                if (number[r] == itsNumber) {
                    return r;
                }
            }
            return NONE;
        }

        void add(int itsNumber, int firstDay, int lastDay) {
            if (rules == MOST) {
                return;
            }
            number[rules] = itsNumber;
            first[rules] = firstDay;
            last[rules] = lastDay;
            struck[rules] = NONE;
            duties[rules] = 0;
            stepsFrom[rules] = steps;
            stepsTo[rules] = steps;
            for (int what = 0; what < DUTY_SORTS; what++) {
                told[rules * DUTY_SORTS + what] = UNTOLD;
            }
            rules++;
        }

        void strike(int r, int day) {
            if (struck[r] == NONE || day < struck[r]) {
                struck[r] = day;
            }
        }

        /** A step of the last RULE's COND. */
        void addStep(int sort, int n) {
            if (rules == 0 || steps == MOST_STEPS) {
                return;
            }
            step[steps] = sort * STEP + n;
            steps++;
            stepsTo[rules - 1] = steps;
        }

        boolean tellsLast(int what) {
            return rules > 0 && told[(rules - 1) * DUTY_SORTS + what] != UNTOLD;
        }

        /** A number of a DUTY of the last RULE. */
        void tell(int what, int n) {
            if (rules > 0) {
                told[(rules - 1) * DUTY_SORTS + what] = n;
            }
        }

        void countDuty() {
            if (rules > 0) {
                duties[rules - 1]++;
            }
        }

        int binding(int r, int hand, int mill, int day) {
            if (day < first[r] || day > last[r] || struck[r] != NONE && day >= struck[r]) {
                return NOT;
            }
            int top = 0;
            for (int k = stepsFrom[r]; k < stepsTo[r]; k++) {
                int sort = step[k] / STEP;
                if (sort == TURN && top > 0) {
                    values[top - 1] = SURE - values[top - 1];
                } else if (sort == BOTH && top > 1) {
                    top--;
                    values[top - 1] = Math.min(values[top - 1], values[top]);
                } else if (sort == EITHER && top > 1) {
                    top--;
                    values[top - 1] = Math.max(values[top - 1], values[top]);
                } else if (sort > TURN && top < values.length) {
                    values[top] = test(step[k], hand, mill, day);
                    top++;
                }
            }
            return top == 0 ? SURE : values[0];
        }

        private int test(int itsStep, int hand, int mill, int day) {
            int n = itsStep % STEP;
            int from = hands.ageFrom(hand, day);
            int to = hands.ageTo(hand, day);
            switch (itsStep / STEP) {
                case AGE_BELOW: return value(to < n, from < n);
                case AGE_ABOVE: return value(from > n, to > n);
                case AGE_IS: return value(from == n && to == n, from <= n && n <= to);
                case KIND_IS: return value(hands.kind[hand] == n, false);
                case TRADE_IS: return value(mills.trade[mill] == n, false);
                case MILL_IS: return value(mill == n, false);
                default: return value(hands.papers[hand] > 0, false);
            }
        }

        private static int value(boolean forAll, boolean forSome) {
            return forAll ? SURE : forSome ? MAYBE : NOT;
        }

        /** Weighs every RULE once: asked(), reason() and firstQuarrel() answer by it. */
        void ask(int hand, int mill, int day) {
            customary = hands.customAs(hands.kind[hand], hand);
            for (int r = 0; r < rules; r++) {
                bound[r] = binding(r, hand, mill, day);
            }
        }

        private boolean speaks(int r, int what, int least) {
            return bound[r] >= least && told[r * DUTY_SORTS + what] != UNTOLD;
        }

        int asked(int what, int least) {
            boolean lowers = what == HOURS || what == TO || what == REST;
            int duty = what == HOURS ? customary : lowers ? MINUTES : 0;
            for (int r = 0; r < rules; r++) {
                if (speaks(r, what, least)) {
                    int n = told[r * DUTY_SORTS + what];
                    duty = lowers ? Math.min(duty, n) : Math.max(duty, n);
                }
            }
            return duty;
        }

        int reason(int what, int least) {
            int duty = asked(what, least);
            int found = NONE;
            for (int r = 0; r < rules; r++) {
                boolean tellsJustThat = speaks(r, what, least) && told[r * DUTY_SORTS + what] == duty;
                if (tellsJustThat && (found == NONE || number[r] < found)) {
                    found = number[r];
                }
            }
            return found;
        }

        int firstQuarrel() {
            for (int r = 0; r < rules; r++) {
                for (int s = r + 1; s < rules; s++) {
                    if (startsTooLate(r, s) || startsTooLate(s, r)) {
                        return 100 * number[r] + number[s];
                    }
                }
            }
            return NONE;
        }

        private boolean startsTooLate(int r, int s) {
            return speaks(r, FROM, SURE) && speaks(s, TO, SURE)
                && told[r * DUTY_SORTS + FROM] >= told[s * DUTY_SORTS + TO];
        }
    }

    /**
     * THE TEXT, and how it is read: the TOKEN looked at is always the first one that is not taken
     * yet, so that, where a method answers false, its place is the FAULT.
     */
    private static final class Reader {
        static final int MOST = 900;
        private static final int WORD = -1, NUMBER = -2, END = -3, BROKEN = -4;
        private static final int GREATEST_NUMBER = 9999;
        private static final int MOST_DUTIES = 4;
        private static final int MOST_OPEN = 10;
        private static final int MOST_TESTS = 30;
        private static final int OPEN = 0;

        int length;
        private final byte[] text = new byte[MOST];
        private int token;
        private int place;
        private int size;
        private int value;
        private Act into;
        private int tests;
        /** Signs whose right side is not read yet, by how tightly they bind: OPEN, EITHER, BOTH, TURN. */
        private final int[] waiting = new int[64];
        private int waits;

        Reader(Act into) {
            this.into = into;
        }

        int append(long v, int n) {
            if (length + n > MOST) {
                return FULL;
            }
            for (int k = n - 1; k >= 0; k--) {
                text[length] = (byte) (v >>> (8 * k));
                length++;
            }
            return length;
        }

        int empty() {
            int had = length;
            length = 0;
            return had;
        }

        /** The FAULT's place, or NONE. */
        int readInto(Act act) {
            into = act;
            act.forget();
            place = 0;
            size = 0;
            step();
            for (int k = 0; k < MOST && token != END; k++) {
                boolean fits = false;
                if (isWord("rule")) {
                    fits = act.rules < Act.MOST && readHead() && readIf() && readDuties();
                } else if (isWord("strike")) {
                    fits = readStrike();
                }
                if (!fits) {
                    return place;
                }
            }
            return NONE;
        }

        private void step() {
            place += size;
            while (place < length && (text[place] == 32 || text[place] == 10)) {
                place++;
            }
            size = 0;
            if (place >= length) {
                token = END;
                return;
            }
            token = text[place] & 255;
            size = 1;
            if (token >= 'a' && token <= 'z') {
                token = WORD;
                while (place + size < length && text[place + size] >= 'a' && text[place + size] <= 'z') {
                    size++;
                }
            } else if (token >= '0' && token <= '9') {
                boolean zeroAhead = token == '0';
                value = token - '0';
                while (place + size < length && text[place + size] >= '0' && text[place + size] <= '9') {
                    // Held just above the greatest one: the text may have hundreds of digits.
                    value = Math.min(GREATEST_NUMBER + 1, value * 10 + text[place + size] - '0');
                    size++;
                }
                token = value > GREATEST_NUMBER || zeroAhead && size > 1 ? BROKEN : NUMBER;
            }
        }

        private boolean isWord(String word) {
            if (token != WORD || size != word.length()) {
                return false;
            }
            for (int k = 0; k < size; k++) {
                if (text[place + k] != word.charAt(k)) {
                    return false;
                }
            }
            return true;
        }

        private boolean takeWord(String word) {
            if (!isWord(word)) {
                return false;
            }
            step();
            return true;
        }

        private boolean takeSign(char sign) {
            if (token != sign) {
                return false;
            }
            step();
            return true;
        }

        /** The number, or NONE if another TOKEN or one that is beyond is there. */
        private int takeNumber(int least, int greatest) {
            if (token != NUMBER || value < least || value > greatest) {
                return NONE;
            }
            int taken = value;
            step();
            return taken;
        }

        private boolean readHead() {
            step();
            if (token == NUMBER && into.find(value) != NONE) {
                return false;
            }
            int number = takeNumber(1, 99);
            if (number == NONE || !takeWord("on")) {
                return false;
            }
            int first = takeNumber(0, DAYS - 1);
            if (first == NONE || !takeSign('-')) {
                return false;
            }
            int last = takeNumber(first, DAYS - 1);
            if (last == NONE || !takeSign(':')) {
                return false;
            }
            into.add(number, first, last);
            return true;
        }

        private boolean readIf() {
            return !takeWord("if") || readCond() && takeWord("then");
        }

        private boolean readStrike() {
            step();
            int struck = token == NUMBER ? into.find(value) : NONE;
            if (struck == NONE) {
                return false;
            }
            step();
            if (!takeWord("on")) {
                return false;
            }
            int day = takeNumber(0, DAYS - 1);
            if (day == NONE) {
                return false;
            }
            into.strike(struck, day);
            return takeSign(';');
        }

        /** A comma behind the fourth DUTY is taken: the FAULT is what comes behind it. */
        private boolean readDuties() {
            for (int k = 0; k < MOST_DUTIES; k++) {
                if (!readDuty()) {
                    return false;
                }
                into.countDuty();
                if (!takeSign(',')) {
                    return takeSign(';');
                }
            }
            return false;
        }

        private boolean readDuty() {
            int what = dutyWord();
            if (what == NONE || into.tellsLast(what)) {
                return false;
            }
            step();
            switch (what) {
                case HOURS: return readTold(HOURS, 0, MINUTES);
                case FROM: return readSpan();
                case SCHOOL: return readTold(SCHOOL, 0, 600);
                case REST: return readTold(REST, 1, MINUTES);
                default:
                    into.tell(what, 1);
                    return true;
            }
        }

        private int dutyWord() {
            if (isWord("hours")) {
                return HOURS;
            }
            if (isWord("from")) {
                return FROM;
            }
            if (isWord("school")) {
                return SCHOOL;
            }
            if (isWord("rest")) {
                return REST;
            }
            if (isWord("paper")) {
                return PAPER;
            }
            return isWord("bar") ? BAR : NONE;
        }

        private boolean readTold(int what, int least, int greatest) {
            int n = takeNumber(least, greatest);
            if (n == NONE) {
                return false;
            }
            into.tell(what, n);
            return true;
        }

        private boolean readSpan() {
            int from = takeNumber(0, MINUTES - 1);
            if (from == NONE || !takeWord("to")) {
                return false;
            }
            int to = takeNumber(from + 1, MINUTES - 1);
            if (to == NONE) {
                return false;
            }
            into.tell(FROM, from);
            into.tell(TO, to);
            return true;
        }

        /**
         * Up to the first TOKEN that can't belong to it. Signs wait in a row instead of in calls that
         * call themselves: the text may have hundreds of ! one behind the other.
         */
        private boolean readCond() {
            int open = 0;
            boolean tested = false;
            tests = 0;
            waits = 0;
            for (int k = 0; k < MOST; k++) {
                if (!tested && takeSign('!')) {
                    turnNext();
                } else if (!tested && token == '(') {
                    open++;
                    if (open > MOST_OPEN) {
                        return false;
                    }
                    waitFor(OPEN);
                    step();
                } else if (!tested) {
                    if (!readTest()) {
                        return false;
                    }
                    release(Act.TURN);
                    tested = true;
                } else if (open > 0 && takeSign(')')) {
                    open--;
                    close();
                } else if (takeSign('&')) {
                    release(Act.BOTH);
                    waitFor(Act.BOTH);
                    tested = false;
                } else if (takeSign('|')) {
                    release(Act.EITHER);
                    waitFor(Act.EITHER);
                    tested = false;
                } else {
                    release(Act.EITHER);
                    return open == 0;
                }
            }
            return false;
        }

        private void waitFor(int sign) {
            if (waits < waiting.length) {
                waiting[waits] = sign;
                waits++;
            }
        }

        /** Two ! in a row tell nothing, and would fill the row. */
        private void turnNext() {
            if (waits > 0 && waiting[waits - 1] == Act.TURN) {
                waits--;
            } else {
                waitFor(Act.TURN);
            }
        }

        private void release(int loosest) {
            while (waits > 0 && waiting[waits - 1] >= loosest) {
                waits--;
                into.addStep(waiting[waits], 0);
            }
        }

        private void close() {
            release(Act.EITHER);
            if (waits > 0) {
                waits--;
            }
            release(Act.TURN);
        }

        private boolean readTest() {
            int sort = testWord();
            if (sort == NONE || tests == MOST_TESTS) {
                return false;
            }
            tests++;
            step();
            if (sort == Act.HAS_PAPER) {
                into.addStep(sort, 0);
                return true;
            }
            if (sort == Act.AGE_IS) {
                sort = ageSign();
            } else if (token != '=') {
                sort = NONE;
            }
            if (sort == NONE) {
                return false;
            }
            step();
            int n = takeNumber(0, GREATEST_NUMBER);
            if (n == NONE) {
                return false;
            }
            into.addStep(sort, n);
            return true;
        }

        private int testWord() {
            if (isWord("age")) {
                return Act.AGE_IS;
            }
            if (isWord("kind")) {
                return Act.KIND_IS;
            }
            if (isWord("trade")) {
                return Act.TRADE_IS;
            }
            if (isWord("mill")) {
                return Act.MILL_IS;
            }
            return isWord("paper") ? Act.HAS_PAPER : NONE;
        }

        private int ageSign() {
            switch (token) {
                case '<': return Act.AGE_BELOW;
                case '>': return Act.AGE_ABOVE;
                case '=': return Act.AGE_IS;
                default: return NONE;
            }
        }
    }

    /** LINES; those of one HAND on one DAY are picked first, with IN and OUT as spans. */
    private static final class Book {
        static final int MOST = 60;
        static final int MOST_WEIGHED = 12;

        int many;
        private final int[] hand = new int[MOST];
        private final int[] day = new int[MOST];
        private final int[] where = new int[MOST];
        private final int[] in = new int[MOST];
        private final int[] out = new int[MOST];
        int picked;
        private final int[] place = new int[MOST];
        private final int[] inLeast = new int[MOST];
        private final int[] inGreatest = new int[MOST];
        private final int[] outLeast = new int[MOST];
        private final int[] outGreatest = new int[MOST];
        private final int[] clashing = new int[MOST_WEIGHED];
        private final Mills mills;

        Book(Mills mills) {
            this.mills = mills;
        }

        int add(int itsHand, int itsDay, int itsWhere, int itsIn, int itsOut) {
            if (many == MOST) {
                return FULL;
            }
            hand[many] = itsHand;
            day[many] = itsDay;
            where[many] = itsWhere;
            in[many] = itsIn;
            out[many] = itsOut;
            many++;
            return many;
        }

        void pick(int itsHand, int itsDay) {
            picked = 0;
            for (int k = 0; k < many; k++) {
                if (hand[k] == itsHand && day[k] == itsDay) {
                    place[picked] = where[k];
                    inLeast[picked] = mills.inTruth(where[k], in[k], false);
                    inGreatest[picked] = mills.inTruth(where[k], in[k], true);
                    outLeast[picked] = mills.inTruth(where[k], out[k], false);
                    outGreatest[picked] = mills.inTruth(where[k], out[k], true);
                    picked++;
                }
            }
        }

        boolean pickedAt(int mill) {
            for (int k = 0; k < picked; k++) {
                if (place[k] == mill) {
                    return true;
                }
            }
            return false;
        }

        private int lasts(int k, int sure) {
            int minutes = sure == SURE ? outLeast[k] - inGreatest[k] : outGreatest[k] - inLeast[k];
            return Math.max(0, minutes);
        }

        int worked(int sure) {
            int sum = 0;
            for (int k = 0; k < picked; k++) {
                if (place[k] != NONE) {
                    sum += lasts(k, sure);
                }
            }
            return sum;
        }

        int schooled() {
            int sum = 0;
            for (int k = 0; k < picked; k++) {
                if (place[k] == NONE) {
                    sum += lasts(k, SURE);
                }
            }
            return sum;
        }

        int longestAt(int mill, int sure) {
            int longest = 0;
            for (int k = 0; k < picked; k++) {
                if (place[k] == mill) {
                    longest = Math.max(longest, lasts(k, sure));
                }
            }
            return longest;
        }

        /** Whether a LINE there begins ahead of from or ends behind to. */
        boolean leaves(int mill, int from, int to, int sure) {
            for (int k = 0; k < picked; k++) {
                int begins = sure == SURE ? inGreatest[k] : inLeast[k];
                int ends = sure == SURE ? outLeast[k] : outGreatest[k];
                if (place[k] == mill && (begins < from || ends > to)) {
                    return true;
                }
            }
            return false;
        }

        private boolean bothIn(int k, int l) {
            return Math.max(inGreatest[k], inGreatest[l]) < Math.min(outLeast[k], outLeast[l]);
        }

        int clashes() {
            int found = 0;
            for (int k = 0; k < picked; k++) {
                for (int l = k + 1; l < picked; l++) {
                    if (bothIn(k, l)) {
                        found++;
                    }
                }
            }
            return found;
        }

        /** The first set of the fewest: sets are gone through from the least on. */
        int leastDoubted() {
            int lines = Math.min(picked, MOST_WEIGHED);
            for (int k = 0; k < lines; k++) {
                clashing[k] = 0;
                for (int l = 0; l < lines; l++) {
                    if (l != k && bothIn(k, l)) {
                        clashing[k] |= 1 << l;
                    }
                }
            }
            int all = (1 << lines) - 1;
            int best = all;
            for (int set = 0; set < all; set++) {
                if (Integer.bitCount(set) < Integer.bitCount(best) && isPeaceful(all & ~set, lines)) {
                    best = set;
                }
            }
            return best;
        }

        private boolean isPeaceful(int left, int lines) {
            for (int k = 0; k < lines; k++) {
                if ((left >> k & 1) == 1 && (clashing[k] & left) != 0) {
                    return false;
                }
            }
            return true;
        }
    }

    /** PERIODS and the TABLES that can be; LOST MINUTES. */
    private static final class Table {
        static final int MOST_PERIODS = 6;
        static final int QUARTER = 15;
        private static final int MOST_QUARTERS = 134;
        private static final int SHIFTS = 1 << MOST_PERIODS;

        private final int[] minutes = new int[MOST_PERIODS];
        private final int[] needs = new int[MOST_PERIODS];
        /** Bits of PERIODS that NEED one SET at least, two, three. */
        private int needOne;
        private int needTwo;
        private int needThree;
        /** What one SET may be in, from the least on: the first is 0, out all the time. */
        private final int[] shift = new int[SHIFTS];
        private int shifts;
        /** By PERIODS that a SET has to be in: how many such shifts there are, and the least. */
        private final int[] shiftsWith = new int[SHIFTS];
        private final int[] leastWith = new int[SHIFTS];
        private final long[] oneRow = new long[MOST_QUARTERS + 1];
        private final long[] otherRow = new long[MOST_QUARTERS + 1];

        Table() {
            for (int i = 0; i < MOST_PERIODS; i++) {
                minutes[i] = 90;
                needs[i] = 1;
            }
        }

        int setPeriod(int i, int itsMinutes, int itsNeeds) {
            minutes[i] = itsMinutes;
            needs[i] = itsNeeds;
            return 1;
        }

        void prepare(int p, int most, int inARow) {
            needOne = needing(p, 1);
            needTwo = needing(p, 2);
            needThree = needing(p, 3);
            shifts = 0;
            for (int set = 0; set < 1 << p; set++) {
                if (isShift(set, p, most, inARow)) {
                    shift[shifts] = set;
                    shifts++;
                }
            }
            for (int wanted = 0; wanted < 1 << p; wanted++) {
                shiftsWith[wanted] = 0;
                for (int k = shifts - 1; k >= 0; k--) {
                    if ((shift[k] & wanted) == wanted) {
                        shiftsWith[wanted]++;
                        leastWith[wanted] = shift[k];
                    }
                }
            }
        }

        private int needing(int p, int sets) {
            int bits = 0;
            for (int i = 0; i < p; i++) {
                if (needs[i] >= sets) {
                    bits |= 1 << i;
                }
            }
            return bits;
        }

        private boolean isShift(int set, int p, int most, int inARow) {
            int sum = 0;
            int row = 0;
            int longest = 0;
            for (int i = 0; i < p; i++) {
                if ((set >> i & 1) == 1) {
                    sum += minutes[i];
                    row++;
                    longest = Math.max(longest, row);
                } else {
                    row = 0;
                }
            }
            return sum <= most && longest <= inARow;
        }

        /** PERIODS that SET 0 has to be in beside two others; NONE if one would lack more than it. */
        private int wanted(int a, int b) {
            int one = a | b;
            int two = a & b;
            if ((needTwo & ~one) != 0 || (needThree & ~two) != 0) {
                return NONE;
            }
            return needOne & ~one | needTwo & ~two | needThree;
        }

        /** SETS beyond n are held to the first shift, out all the time. */
        int tables(int n) {
            int found = 0;
            int choicesOfTwo = n > 2 ? shifts : 1;
            int choicesOfOne = n > 1 ? shifts : 1;
            for (int k = 0; k < choicesOfTwo; k++) {
                for (int l = 0; l < choicesOfOne; l++) {
                    int wanted = wanted(shift[k], shift[l]);
                    if (wanted != NONE) {
                        found += shiftsWith[wanted];
                    }
                }
            }
            return found;
        }

        int leastTable(int n) {
            int choicesOfTwo = n > 2 ? shifts : 1;
            int choicesOfOne = n > 1 ? shifts : 1;
            for (int k = 0; k < choicesOfTwo; k++) {
                for (int l = 0; l < choicesOfOne; l++) {
                    int wanted = wanted(shift[k], shift[l]);
                    if (wanted != NONE && shiftsWith[wanted] > 0) {
                        return shift[k] << 2 * MOST_PERIODS | shift[l] << MOST_PERIODS | leastWith[wanted];
                    }
                }
            }
            return NONE;
        }

        long waysToMakeUp(int quarters, int days, int mostADay) {
            int sought = Math.max(0, Math.min(quarters, MOST_QUARTERS));
            long[] ways = oneRow;
            long[] next = otherRow;
            for (int s = 0; s <= sought; s++) {
                ways[s] = s == 0 ? 1 : 0;
            }
            for (int d = 0; d < days; d++) {
                long sum = 0;
                for (int s = 0; s <= sought; s++) {
                    sum += ways[s];
                    int tooFar = s - mostADay - 1;
                    if (tooFar >= 0) {
                        sum -= ways[tooFar];
                    }
                    next[s] = sum;
                }
                long[] old = ways;
                ways = next;
                next = old;
            }
            return ways[sought];
        }
    }

    /** BENCHES and CASES. */
    private static final class Court {
        static final int MOST_BENCHES = 5;
        static final int MOST_CASES = 20;

        int benches;
        private final int[] kin = new int[MOST_BENCHES];
        private final int[] base = new int[BREACH_SORTS];
        int cases;
        final int[] bench = new int[MOST_CASES];
        final int[] mill = new int[MOST_CASES];
        final int[] of = new int[MOST_CASES];
        final boolean[] stands = new boolean[MOST_CASES];
        private final int[] hand = new int[MOST_CASES];

        Court() {
            for (int i = 0; i < BREACH_SORTS; i++) {
                base[i] = 20 * i + 20;
            }
        }

        boolean knows(int i) {
            return i >= 0 && i < cases;
        }

        int addBench(int itsKin) {
            if (benches == MOST_BENCHES) {
                return FULL;
            }
            kin[benches] = itsKin;
            return benches++;
        }

        int setBase(int itsOf, int v) {
            int old = base[itsOf];
            base[itsOf] = v;
            return old;
        }

        int benchFor(int owner) {
            for (int b = 0; b < benches; b++) {
                if ((kin[b] >> owner & 1) == 0) {
                    return b;
                }
            }
            return NONE;
        }

        int addCase(int itsMill, int itsHand, int itsOf, int itsBench) {
            if (cases == MOST_CASES) {
                return FULL;
            }
            mill[cases] = itsMill;
            hand[cases] = itsHand;
            of[cases] = itsOf;
            bench[cases] = itsBench;
            stands[cases] = true;
            return cases++;
        }

        int fine(int i) {
            if (!stands[i]) {
                return 0;
            }
            int times = 1;
            for (int k = 0; k < i; k++) {
                if (stands[k] && mill[k] == mill[i]) {
                    times++;
                }
            }
            return base[of[i]] * times;
        }

        int finesOf(int itsMill) {
            int sum = 0;
            for (int i = 0; i < cases; i++) {
                if (itsMill == NONE || mill[i] == itsMill) {
                    sum += fine(i);
                }
            }
            return sum;
        }

        int overturn(int i) {
            int fallen = 0;
            for (int k = i; k < cases; k++) {
                if (stands[k] && hand[k] == hand[i] && of[k] == of[i]) {
                    stands[k] = false;
                    fallen++;
                }
            }
            return fallen;
        }

        int standing() {
            int found = 0;
            for (int i = 0; i < cases; i++) {
                if (stands[i]) {
                    found++;
                }
            }
            return found;
        }
    }

    /** HOURS between TOWNS, and the BEST WAY. */
    private static final class Roads {
        static final int TOWNS = 9;
        private static final int VISIT = 2;
        private static final int NEVER = 1000000;

        int bestDoubt;
        int bestSet;
        int bestHours;
        private final int[] hours = new int[TOWNS * TOWNS];
        /** By a set of MILLS and the last one visited: the fewest HOURS. */
        private final int[] fewest = new int[(1 << Mills.MOST) * Mills.MOST];

        Roads() {
            for (int a = 0; a < TOWNS; a++) {
                for (int b = 0; b < TOWNS; b++) {
                    hours[a * TOWNS + b] = a == b ? 0 : 10;
                }
            }
        }

        int setHours(int a, int b, int v) {
            int old = hours[a * TOWNS + b];
            hours[a * TOWNS + b] = v;
            hours[b * TOWNS + a] = v;
            return old;
        }

        void seek(Mills mills, int most) {
            bestDoubt = 0;
            bestSet = 0;
            bestHours = 0;
            for (int set = 1; set < 1 << mills.many; set++) {
                int doubt = 0;
                int least = NEVER;
                for (int last = 0; last < mills.many; last++) {
                    if ((set >> last & 1) == 1) {
                        doubt += mills.doubt[last];
                        int itsHours = fewestTo(mills, set, last);
                        fewest[set * Mills.MOST + last] = itsHours;
                        least = Math.min(least, itsHours);
                    }
                }
                if (least <= most && (doubt > bestDoubt || doubt == bestDoubt && least < bestHours)) {
                    bestDoubt = doubt;
                    bestSet = set;
                    bestHours = least;
                }
            }
        }

        /** The set without its last MILL is less, so it has been gone through already. */
        private int fewestTo(Mills mills, int set, int last) {
            int before = set & ~(1 << last);
            if (before == 0) {
                return hours[mills.town[last]] + VISIT;
            }
            int least = NEVER;
            for (int k = 0; k < mills.many; k++) {
                if ((before >> k & 1) == 1) {
                    int road = hours[mills.town[k] * TOWNS + mills.town[last]];
                    least = Math.min(least, fewest[before * Mills.MOST + k] + road + VISIT);
                }
            }
            return least;
        }
    }
}
