import java.lang.reflect.Method;
import java.lang.reflect.Modifier;
import java.util.ArrayList;
import java.util.Arrays;
import java.util.List;

/**
 * Every call with every mixture of numbers from a row of wild ones, next to bounds and far beyond them, on
 * MillInspectors and PlainInspectors side by side: nothing is thrown, and both answer alike.
 */
public final class WildTest {
    private static final int MIN = Integer.MIN_VALUE, MAX = Integer.MAX_VALUE;
    /** Shorter rows for calls with more numbers, so that all mixtures can be gone through. */
    private static final int[][] WILD = {
        {},
        {MIN, MIN + 1, -1024, -999, -10, -9, -8, -3, -1, 0, 1, 2, 3, 4, 5, 6, 7, 8, 19, 20, 255, 256, 1023, 1024, MAX},
        {MIN, -9, -1, 0, 1, 2, 3, 4, 5, 6, 7, 8, 9, 30, 31, 99, 100, 199, 200, 201, 360, 500, 501, 65536, MAX - 1, MAX},
        {MIN, -91, -90, -9, -1, 0, 1, 2, 3, 8, 9, 15, 30, 90, 91, 300, 359, 360, 1439, 1440, 1441, 2000, 2001, MAX},
        {MIN, -9, -1, 0, 1, 2, 3, 5, 6, 30, 32, 359, 360, 9999, 10000, MAX},
        {MIN, -9, -1, 0, 1, 2, 3, 6, 359, 1440, MAX}};
    private static final long[] BYTES = {0, -1, Long.MIN_VALUE, Long.MAX_VALUE, 0x20, 0x72756c652031206fL};
    private static final int CALLS = 400;

    private final List<Object[]> calls = new ArrayList<>();
    private MillInspectors x;
    private PlainInspectors y;

    public static void main(String[] args) {
        for (Method m : MillInspectors.class.getDeclaredMethods()) {
            if (Modifier.isPublic(m.getModifiers())) {
                new WildTest().all(m);
            }
        }
        Due.end("WildTest");
    }

    private void all(Method m) {
        Class<?>[] types = m.getParameterTypes();
        mix(types, new Object[types.length], 0);
        int made = CALLS;
        for (Object[] numbers : calls) {
            if (made == CALLS) {
                x = Busy.made();
                y = Busy.plain();
                made = 0;
            }
            made++;
            Due.is(m.getName() + Arrays.toString(numbers), Busy.call(x, m.getName(), numbers),
                Busy.call(y, m.getName(), numbers));
        }
        for (int what = 0; what < 8; what++) {
            Due.is("count(" + what + ") behind " + m.getName(), x.count(what), y.count(what));
        }
    }

    private void mix(Class<?>[] types, Object[] numbers, int at) {
        if (at == types.length) {
            calls.add(numbers.clone());
            return;
        }
        if (types[at] == long.class) {
            for (long v : BYTES) {
                numbers[at] = v;
                mix(types, numbers, at + 1);
            }
            return;
        }
        for (int n : WILD[types.length]) {
            numbers[at] = n;
            mix(types, numbers, at + 1);
        }
    }
}
