import java.util.function.Supplier;
import java.util.function.ToLongFunction;

/**
 * Bounds: what a call takes at both ends of a number, and what it refuses beyond them. A refused call is
 * made on one of two objects that were made alike, and no answer may tell the two apart then.
 */
final class Edge {
    interface With {
        long call(MillInspectors x, int n);
    }

    private final String what;
    private final Supplier<MillInspectors> maker;
    private final With with;
    private int least = Integer.MAX_VALUE;
    private int greatest = Integer.MIN_VALUE;

    private Edge(String what, Supplier<MillInspectors> maker, With with) {
        this.what = what;
        this.maker = maker;
        this.with = with;
    }

    /** A number of a call, which is made anew on an object of the maker for each value of it. */
    static Edge of(String what, Supplier<MillInspectors> maker, With with) {
        return new Edge(what, maker, with);
    }

    Edge takes(int n, long due) {
        Due.is(what + ": taken at " + n, with.call(maker.get(), n), due);
        least = Math.min(least, n);
        greatest = Math.max(greatest, n);
        return this;
    }

    /** Next to the bounds, far off, and where the lowest bits alone would be within them. */
    Edge refusesBeyond(long due) {
        refuses(least - 1, due);
        refuses(greatest + 1, due);
        refuses(Integer.MIN_VALUE, due);
        refuses(Integer.MAX_VALUE, due);
        refuses(Integer.MIN_VALUE + greatest, due);
        refuses(least + (1 << 16), due);
        if (greatest - least < 256) {
            refuses(least + 256, due);
            refuses(greatest - 256, due);
        }
        return this;
    }

    Edge refuses(int n, long due) {
        refused(what + ": refused at " + n, maker, due, x -> with.call(x, n));
        return this;
    }

    static void refused(String what, Supplier<MillInspectors> maker, long due, ToLongFunction<MillInspectors> call) {
        for (int row = 0; row < Answers.ROWS; row++) {
            MillInspectors touched = maker.get();
            Due.is(what, call.applyAsLong(touched), due);
            boolean same = Answers.row(row, touched).equals(Answers.row(row, maker.get()));
            Due.holds(what + ": nothing changes, by answers of row " + row, same);
        }
    }
}
