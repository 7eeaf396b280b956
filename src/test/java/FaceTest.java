import java.io.IOException;
import java.lang.reflect.Constructor;
import java.lang.reflect.Field;
import java.lang.reflect.Method;
import java.lang.reflect.Modifier;
import java.nio.file.Files;
import java.nio.file.Path;
import java.util.ArrayList;
import java.util.List;
import java.util.Set;
import java.util.TreeSet;

/** The public face is the document's, and the source keeps to what LANGUAGE.md leaves. */
public final class FaceTest {
    private static final String[] FACE = {
        "int mill(int,int,int)", "int hand(int,int)", "int custom(int,int)", "int paper(int,int,int,int)",
        "int born(int,int)", "int age(int,int,int)", "int type(long,int)", "int clear()", "int act()",
        "int binds(int,int,int,int)", "int duty(int,int,int,int,int)", "int why(int,int,int,int,int)",
        "int quarrel(int,int,int)", "int rule(int,int)", "int line(int,int,int,int,int)", "int check(int,int,int)",
        "int truth(int,int,int)", "int work(int,int,int)", "int breach(int,int,int)", "int clash(int,int)",
        "int doubted(int,int,int)", "int period(int,int,int)", "int can(int,int,int,int,int)", "long lost(int,int,int)",
        "int bench(int)", "int base(int,int)", "int sue(int,int,int,int)", "int suit(int,int)", "int appeal(int)",
        "int fines(int)", "int road(int,int,int)", "int doubt(int,int)", "int way(int,int)", "int count(int)",
        "long trace()"};

    public static void main(String[] args) throws IOException {
        face();
        constants();
        nested();
        source();
        Due.end("FaceTest");
    }

    private static String signature(Method m) {
        List<String> types = new ArrayList<>();
        for (Class<?> type : m.getParameterTypes()) {
            types.add(type.getName());
        }
        return m.getReturnType().getName() + " " + m.getName() + "(" + String.join(",", types) + ")";
    }

    private static void face() {
        Class<?> c = MillInspectors.class;
        Due.holds("public and final", Modifier.isPublic(c.getModifiers()) && Modifier.isFinal(c.getModifiers()));
        Set<String> open = new TreeSet<>();
        Set<String> openNames = new TreeSet<>();
        for (Method m : c.getDeclaredMethods()) {
            if (!Modifier.isPrivate(m.getModifiers()) && !m.isSynthetic()) {
                Due.holds("public, not static: " + m, m.getModifiers() == Modifier.PUBLIC);
                open.add(signature(m));
                openNames.add(m.getName());
            }
        }
        Due.holds("the document's methods: " + open, open.equals(new TreeSet<>(List.of(FACE))));
        for (Method m : c.getDeclaredMethods()) {
            Due.holds("no private method bears a public name: " + m,
                !Modifier.isPrivate(m.getModifiers()) || !openNames.contains(m.getName()));
        }
        Constructor<?>[] makers = c.getDeclaredConstructors();
        Due.is("one constructor", makers.length, 1);
        Due.is("without parameters", makers[0].getParameterCount(), 0);
        Due.holds("that is public", Modifier.isPublic(makers[0].getModifiers()));
    }

    private static void constants() {
        Due.is("BAD", MillInspectors.BAD, -1);
        Due.is("STATE", MillInspectors.STATE, -2);
        Due.is("FULL", MillInspectors.FULL, -3);
        Due.is("NONE", MillInspectors.NONE, -9);
        Set<String> open = new TreeSet<>();
        for (Field f : MillInspectors.class.getDeclaredFields()) {
            if (!Modifier.isPrivate(f.getModifiers())) {
                open.add(f.getName());
            }
        }
        Due.holds("the document's constants: " + open, open.equals(Set.of("BAD", "STATE", "FULL", "NONE")));
    }

    private static void nested() {
        Class<?>[] inside = MillInspectors.class.getDeclaredClasses();
        Due.holds("twelve classes at most", inside.length + 1 <= 12);
        List<Class<?>> all = new ArrayList<>(List.of(inside));
        all.add(MillInspectors.class);
        for (Class<?> c : all) {
            Due.holds("static or the class itself: " + c, c == MillInspectors.class || Modifier.isStatic(c.getModifiers()));
            int own = 0;
            for (Field f : c.getDeclaredFields()) {
                boolean fixed = Modifier.isStatic(f.getModifiers());
                Due.holds("static fields are final: " + f, !fixed || Modifier.isFinal(f.getModifiers()));
                own += fixed ? 0 : 1;
            }
            Due.holds("twenty fields at most: " + c, own <= 20);
            for (Method m : c.getDeclaredMethods()) {
                Due.holds("seven parameters at most: " + m, m.getParameterCount() <= 7);
                Due.holds("no name of the face inside: " + m, c == MillInspectors.class || !isOfFace(m.getName()));
            }
        }
    }

    private static boolean isOfFace(String name) {
        for (String method : FACE) {
            if (method.contains(" " + name + "(")) {
                return true;
            }
        }
        return false;
    }

    private static void source() throws IOException {
        String text = Files.readString(Path.of("src/main/java/MillInspectors.java"));
        String code = text.replaceAll("(?s)/\\*.*?\\*/", " ").replaceAll("//[^\n]*", " ");
        String[] words = {"throw", "throws", "try", "catch", "finally", "synchronized", "assert", "import", "package",
            "instanceof", "volatile", "native", "transient"};
        for (String word : words) {
            Due.holds("the source does without " + word, !code.matches("(?s).*\\b" + word + "\\b.*"));
        }
        for (String sign : new String[] {"->", "::", "Exact", "System", "Random", "Thread"}) {
            Due.holds("the source does without " + sign, !code.contains(sign));
        }
        for (int k = 0; k < text.length(); k++) {
            if (text.charAt(k) > 126) {
                Due.holds("plain signs only, at " + k, false);
            }
        }
    }
}
