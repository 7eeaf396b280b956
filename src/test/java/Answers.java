import java.util.ArrayList;
import java.util.List;

/**
 * All that an object can be asked, in rows that are each short enough for the 512 calls of one object.
 * Some rows change the object as they go: what a changing call answers tells what was there.
 */
final class Answers {
    static final int ROWS = 6;
    private static final int NONE = MillInspectors.NONE;

    private final MillInspectors x;
    private final List<Long> told = new ArrayList<>();

    private Answers(MillInspectors x) {
        this.x = x;
    }

    static List<Long> row(int k, MillInspectors x) {
        Answers a = new Answers(x);
        a.counts();
        switch (k) {
            case 0: a.people(); break;
            case 1: a.acts(); break;
            case 2: a.books(); break;
            case 3: a.relays(); break;
            case 4: a.court(); break;
            default: a.visits(); break;
        }
        a.counts();
        return a.told;
    }

    private void add(long answer) {
        told.add(answer);
    }

    private void counts() {
        for (int what = 0; what < 8; what++) {
            add(x.count(what));
        }
        add(x.trace());
    }

    private void people() {
        int hands = x.count(1);
        for (int h = 0; h < hands; h++) {
            for (int what = 0; what < 3; what++) {
                add(x.born(h, what));
            }
            add(x.age(h, 0, 0));
            add(x.age(h, 359, 1));
            add(x.custom(5, h));
        }
        add(x.mill(3, 9, 8));
        add(x.hand(5, 3));
        for (int h = 0; h < hands; h++) {
            add(x.paper(h, 0, 77, 0));
            add(x.born(h, 0));
        }
    }

    private void acts() {
        int last = x.count(1) - 1;
        for (int i = 0; i < x.count(2); i++) {
            for (int what = 0; what < 5; what++) {
                add(x.rule(i, what));
            }
            for (int day : new int[] {0, 9, 359}) {
                add(x.binds(i, 0, 0, day));
                add(x.binds(i, last, x.count(0) - 1, day));
            }
        }
        for (int what = 0; what < 7; what++) {
            for (int sure = 0; sure < 2; sure++) {
                add(x.duty(0, 0, 0, what, sure));
                add(x.why(last, 0, 0, what, sure));
            }
        }
        add(x.quarrel(0, 0, 0));
        add(x.act());
        add(x.type(0x3b, 1));
        add(x.act());
        add(x.clear());
    }

    private void books() {
        int last = x.count(1) - 1;
        for (int m = 0; m < x.count(0); m++) {
            for (int minute : new int[] {0, 300, 301, 700, 701, 1440}) {
                add(x.truth(m, minute, 0));
                add(x.truth(m, minute, 1));
            }
        }
        for (int h : new int[] {0, 1, last}) {
            for (int day : new int[] {0, 1, 359}) {
                for (int what = 0; what < 6; what++) {
                    add(x.work(h, day, what));
                    add(x.breach(h, day, what));
                }
                add(x.clash(h, day));
                add(x.doubted(h, day, 1));
            }
        }
        for (int m = 0; m < x.count(0); m++) {
            add(x.check(m, 700, 6));
            add(x.truth(m, 701, 1));
        }
        add(x.line(0, 0, 0, 1, 2));
        add(x.work(0, 0, 1));
    }

    private void relays() {
        for (int p = 1; p <= 6; p++) {
            for (int n = 1; n <= 3; n++) {
                for (int most : new int[] {89, 90, 450, 1800}) {
                    add(x.can(p, n, most, 2, 0));
                    add(x.can(p, n, most, 6, 1));
                }
            }
        }
        add(x.lost(100, 3, 45));
        add(x.lost(2000, 10, 240));
    }

    private void court() {
        int cases = x.count(5);
        for (int i = 0; i < cases; i++) {
            for (int what = 0; what < 5; what++) {
                add(x.suit(i, what));
            }
        }
        for (int m = 0; m < x.count(0); m++) {
            add(x.fines(m));
        }
        for (int of = 0; of < 6; of++) {
            add(x.base(of, of + 1));
        }
        add(x.fines(NONE));
        add(x.bench(0));
        for (int of = 0; of < 6; of++) {
            add(x.sue(0, 0, 0, of));
        }
        add(x.fines(NONE));
        for (int i = 0; i < cases; i++) {
            add(x.appeal(i));
        }
    }

    private void visits() {
        way(12, 24, 60, 200);
        for (int a = 0; a < 9; a++) {
            for (int b = a + 1; b < 9; b++) {
                add(x.road(a, b, 1 + a + b));
            }
        }
        way(12, 24, 60, 200);
        for (int m = 0; m < x.count(0); m++) {
            add(x.doubt(m, 50 - m));
        }
        way(12, 24, 60, 200);
    }

    private void way(int... hours) {
        for (int most : hours) {
            for (int what = 0; what < 3; what++) {
                add(x.way(most, what));
            }
        }
    }
}
