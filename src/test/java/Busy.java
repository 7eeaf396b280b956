import java.lang.reflect.Method;
import java.lang.reflect.Modifier;
import java.util.HashMap;
import java.util.Map;

/** An object with something of everything, so that whatever a refused call changed would be seen. */
final class Busy {
    private static final int NONE = MillInspectors.NONE;
    static final String ACT = "rule 7 on 0-9:if age<10 then hours 300,bar;rule 9 on 0-359:from 300 to 1200,school 60;"
        + "rule 8 on 0-0:if mill=1 then rest 100;strike 9 on 200;";
    static final String TYPED = "rule 1 on 0-0:bar";

    /**
     * Two MILLS, three HANDS, three RULES, a TEXT, six LINES, two BENCHES, four CASES of which three stand. A word
     * with a blank in it is typed, another is a call's name with its numbers behind it.
     */
    private static final Object[][] CALLS = {
        {"mill", 1, 4, 2}, {"mill", 2, 5, 3}, {"hand", 0, 0}, {"hand", 1, 1}, {"hand", 5, 0},
        {"paper", 1, 1, 24, 0}, {"paper", 2, 0, 3600, 0}, {"custom", 5, 2},
        {ACT}, {"act"}, {TYPED},
        {"check", 0, 300, 10}, {"check", 0, 1200, -20}, {"check", 1, 700, 5},
        {"line", 0, 0, 0, 290, 1300}, {"line", 0, 0, 1, 500, 600}, {"line", 0, 0, NONE, 1350, 1400},
        {"line", 1, 0, 1, 200, 700}, {"line", 1, 1, NONE, 500, 600}, {"line", 2, 0, 0, 400, 800},
        {"bench", 16}, {"bench", 32}, {"sue", 0, 0, 0, 0}, {"sue", 1, 0, 0, 0}, {"sue", 0, 0, 0, 2}, {"sue", 0, 0, 0, 1},
        {"appeal", 3}, {"base", 2, 33}, {"period", 1, 45, 2}, {"period", 4, 200, 0}, {"road", 0, 2, 3}, {"road", 2, 3, 7},
        {"doubt", 0, 5}, {"doubt", 1, 4}};

    private static final Map<String, Method> METHODS = new HashMap<>();

    private Busy() {
    }

    static MillInspectors made() {
        MillInspectors x = new MillInspectors();
        tell(x);
        return x;
    }

    static PlainInspectors plain() {
        PlainInspectors y = new PlainInspectors();
        tell(y);
        return y;
    }

    private static void tell(Object inspectors) {
        for (Object[] call : CALLS) {
            String word = (String) call[0];
            Object[] numbers = java.util.Arrays.copyOfRange(call, 1, call.length);
            if (word.indexOf(' ') < 0) {
                call(inspectors, word, numbers);
            } else {
                type(inspectors, word);
            }
        }
    }

    private static void type(Object inspectors, String text) {
        for (int at = 0; at < text.length(); at += 8) {
            int n = Math.min(8, text.length() - at);
            call(inspectors, "type", Due.bytes(text, at, n), n);
        }
    }

    /** A call by its name: both classes have the document's methods. */
    static long call(Object inspectors, String name, Object... numbers) {
        Class<?> its = inspectors.getClass();
        Method method = METHODS.computeIfAbsent(its.getName() + "." + name, key -> find(its, name, numbers.length));
        try {
            return ((Number) method.invoke(inspectors, numbers)).longValue();
        } catch (ReflectiveOperationException e) {
            throw new IllegalStateException("no answer of " + its.getName() + "." + name, e);
        }
    }

    private static Method find(Class<?> its, String name, int numbers) {
        for (Method m : its.getDeclaredMethods()) {
            boolean open = !Modifier.isPrivate(m.getModifiers());
            if (open && m.getName().equals(name) && m.getParameterCount() == numbers) {
                return m;
            }
        }
        throw new IllegalStateException("no method " + name + " of " + its.getName());
    }
}
