/** What the tests of the project share: answers that are due, and texts that are typed. */
final class Due {
    private static int asked = 0;
    private static int wrong = 0;

    private Due() {
    }

    static void is(String call, long got, long want) {
        asked++;
        if (got != want) {
            wrong++;
            System.out.println(call + " answered " + got + ", due is " + want);
        }
    }

    static void holds(String what, boolean so) {
        is(what, so ? 1 : 0, 1);
    }

    /** Types a text, eight bytes a call at most, and tells the last answer. */
    static int type(MillInspectors x, String text) {
        int answer = x.count(7);
        for (int at = 0; at < text.length(); at += 8) {
            int n = Math.min(8, text.length() - at);
            answer = x.type(bytes(text, at, n), n);
        }
        return answer;
    }

    /** n bytes of a text as type() takes them, the first one highest. */
    static long bytes(String text, int at, int n) {
        long v = 0;
        for (int k = 0; k < n; k++) {
            v = v << 8 | text.charAt(at + k);
        }
        return v;
    }

    /** Types a text and makes it the ACT; a faulty one is cleared away again. */
    static int act(MillInspectors x, String text) {
        x.clear();
        type(x, text);
        int answer = x.act();
        if (answer < 0) {
            is("bytes that a faulty text keeps: " + text, x.clear(), text.length());
        }
        return answer;
    }

    /** A text with its FAULT at the sign ^, which is not part of the text itself. */
    static void fault(MillInspectors x, String marked) {
        int place = marked.indexOf('^');
        String text = marked.substring(0, place) + marked.substring(place + 1);
        is("act() of " + marked, act(x, text), -10 - place);
    }

    static void accepts(MillInspectors x, String text, int rules) {
        is("act() of " + text, act(x, text), rules);
    }

    static void end(String name) {
        System.out.println(name + ": " + asked + " answers, " + wrong + " not as due");
        if (wrong != 0) {
            System.exit(1);
        }
    }
}
